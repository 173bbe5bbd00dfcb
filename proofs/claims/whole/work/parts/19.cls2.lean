/-! CLASS: hours; what is counted. -/
theorem sp_one_k {g : Nat → Nat} {c : Nat} : sp_one g c true = sp_hair g c := by
  unfold sp_one
  rw [if_neg (by rw [sp_gone_atk]; exact fun z => z rfl)]
  rfl
theorem sp_cats_k {g : Nat → Nat} : ∀ c, (sp_cats g true c).2 = 0 := by
  intro c
  induction c with
  | zero => rfl
  | succ c ih =>
    show (if _ then _ else _) = 0
    rw [if_neg (by rw [sp_gone_atk]; exact fun z => z rfl)]
    exact ih
theorem jx_p32 {c : Nat} (h : c < 6) : 2 ^ c ≤ 32 := Nat.pow_le_pow_right (n := 2) (by decide) (show c ≤ 5 by omega)
def sp_sum (f : Nat → Nat) : Nat → Nat
  | 0 => 0
  | k + 1 => sp_sum f k + f k
theorem sp_sum_le {f : Nat → Nat} {M : Nat} : ∀ n, (∀ k, k < n → f k ≤ M) → sp_sum f n ≤ M * n := by
  intro n
  induction n with
  | zero => intro _; exact Nat.le_refl _
  | succ n ih =>
    intro h
    have h1 := ih (fun k hk => h k (by omega))
    have h2 := h n (by omega)
    show sp_sum f n + f n ≤ M * (n + 1)
    rw [Nat.mul_succ]
    omega
def sp_bits (P : Nat → Bool) : Nat → Nat
  | 0 => 0
  | k + 1 => if P k = true then sp_bits P k + 2 ^ k else sp_bits P k
theorem sp_bits_lt (P : Nat → Bool) : ∀ n, sp_bits P n < 2 ^ n := by
  intro n
  induction n with
  | zero => exact Nat.one_pos
  | succ n ih =>
    unfold sp_bits
    rw [Nat.pow_succ]
    split <;> omega
def sp_plc (g : Nat → Nat) : Nat → Int32
  | 0 => 0
  | k + 1 => sp_plc g k ||| (nI 1 <<< (nI (g (38 + 5 * k)) &&& 31))
set_option maxHeartbeats 4000000 in
set_option maxRecDepth 20000 in
theorem ta_hour_l {h : jm_M} {j : Nat} {g : Nat → Nat} (W : jw g) : ∀ c, c ≤ g 0 → ∀ hm : jm_M, (jf_rel hm j (sp_cats g false c).1) → (jf_fr j h hm) → (hm (2, j, 0) 14 = nI (sp_cats g false c).2) → jt_T 18 (7, [(0, .inr (.inr (2, j, 0))), (1, .inl (nI c))], [], hm) (fun u h' => u = none ∧ jf_rel h' j (sp_hour g false) ∧ jf_fr j h h' ∧ h' (2, j, 0) 14 = nI (sp_set g false)) := jx_up (P := fun c => ∀ hm : jm_M, (jf_rel hm j (sp_cats g false c).1) → (jf_fr j h hm) → (hm (2, j, 0) 14 = nI (sp_cats g false c).2) → jt_T 18 (7, [(0, .inr (.inr (2, j, 0))), (1, .inl (nI c))], [], hm) (fun u h' => u = none ∧ jf_rel h' j (sp_hour g false) ∧ jf_fr j h h' ∧ h' (2, j, 0) 14 = nI (sp_set g false))) (fun c hk nx hm Rm Fm Cm => by
  have wc := jw_cats W (kept := false) c hk
  obtain ⟨gc, egc⟩ : ∃ y, y = (sp_cats g false c).1 := ⟨_, rfl⟩
  obtain ⟨sc, esc⟩ : ∃ y, y = (sp_cats g false c).2 := ⟨_, rfl⟩
  rw [← egc, ← esc] at wc
  rw [← egc] at Rm
  have Wc := wc.1
  have e0 := wc.2.1 0 (by decide)
  have bn := jw_n W
  rw [← esc] at Cm
  refine jt_go jm_m18 5 3 (f' := (12, [(0, .inr (.inr (2, j, 0))), (1, .inl (nI c))], [.inl (hm (2, j, 0) 9), .inl (nI c)], hm)) (P := True) rfl trivial ?_
  refine jt_ti (show (hm (2, j, 0) 9) = nI (gc 0) from jf_cats Rm) ?_
  have bq1 := jw_n Wc
  refine jt_nicge jm_m18 8 (a := c) (b := gc 0) (by omega) (by omega) (tgt := 156) (nxt := 15) rfl rfl rfl (fun c12 => ?_) (fun c12 => ?_)
  · refine jt_go jm_m18 91 1 (f' := (157, [(0, .inr (.inr (2, j, 0))), (1, .inl (nI c))], [.inr (.inr (2, j, 0))], hm)) (P := True) rfl trivial ?_
    refine jt_call jm_m18 92 (mi' := 23) (as := [.inr (.inr (2, j, 0))]) (rest := []) (nxt := 160) rfl rfl jm_m23 rfl rfl (ta_clock Rm Wc) ?_
    rintro u h9 ⟨rfl, Rh9, Fh9⟩
    show jt_T 18 (160, [(0, .inr (.inr (2, j, 0))), (1, .inl (nI c))], [], h9) _
    refine jt_vret jm_m18 93 rfl ?_
    have e : c = g 0 := by omega
    subst e
    refine ⟨rfl, ?_, jf_fr_tr Fm Fh9.1, ?_⟩
    · unfold sp_hour; rw [← egc]; exact Rh9
    · unfold sp_set; rw [← esc]; exact Fh9.2.trans Cm
  · refine ta_hour_b Rm Wc (by omega) (fun h1 Rh1 Fh1 => ?_)
    have Wh1 := jw_move Wc (c := c) (by omega)
    have hc1 : c < sp_move gc c 0 := by rw [sp_move_ne (by omega) (by omega)]; omega
    have bt6 := sp_toc_lt Wc (c := c) (by omega)
    have ba6 := jw_at Wc (c := c) (by omega)
    have eg6 := sp_gone_at Wc (c := c) (by omega)
    refine jt_go jm_m18 68 2 (f' := (114, [(0, .inr (.inr (2, j, 0))), (1, .inl (nI c)), (3, .inl (nI (gc (38 + 5 * c)))), (6, .inl (nI (sp_toc gc c)))], [.inl (nI c), .inr (.inr (2, j, 0))], h1)) (P := True) rfl trivial ?_
    refine jt_call jm_m18 70 (mi' := 21) (as := [.inr (.inr (2, j, 0)), .inl (nI c)]) (rest := []) (nxt := 117) rfl rfl jm_m21 rfl rfl (ta_grow Rh1 Wh1 (by omega)) ?_
    rintro u h2 ⟨rfl, Rh2, Gh2⟩
    show jt_T 18 (117, [(0, .inr (.inr (2, j, 0))), (1, .inl (nI c)), (3, .inl (nI (gc (38 + 5 * c)))), (6, .inl (nI (sp_toc gc c)))], [], h2) _
    have Rh2 : jf_rel h2 j (sp_gone gc c false) := Rh2
    have Wh2 : jw (sp_gone gc c false) := jw_gone Wc (by omega)
    have Ch2 : h2 (2, j, 0) 14 = nI sc := (Gh2.2.trans Fh1.2).trans Cm
    have Fh2 := jf_fr_tr Fm (jf_fr_tr Fh1.1 Gh2.1)
    have hc2 : c < sp_gone gc c false 0 := by rw [sp_gone_ne Wc (by omega) (by omega) (by omega) (by omega)]; omega
    refine jt_go jm_m18 71 1 (f' := (118, [(0, .inr (.inr (2, j, 0))), (1, .inl (nI c)), (3, .inl (nI (gc (38 + 5 * c)))), (6, .inl (nI (sp_toc gc c)))], [.inl (nI (gc (38 + 5 * c)))], h2)) (P := True) rfl trivial ?_
    refine jt_callp (w := .inl (nI (sp_sd (gc (38 + 5 * c))))) jm_m18 72 (mi' := 142) (as := [.inl (nI (gc (38 + 5 * c)))]) (rest := []) (nxt := 121) rfl rfl jm_m142 rfl rfl (ta_sideOf (by omega)) ?_
    have bq2 := sp_sd_le (gc (38 + 5 * c))
    refine jt_go jm_m18 73 1 (f' := (123, [(0, .inr (.inr (2, j, 0))), (1, .inl (nI c)), (3, .inl (nI (gc (38 + 5 * c)))), (6, .inl (nI (sp_toc gc c)))], [.inl (nI (sp_toc gc c)), .inl (nI (sp_sd (gc (38 + 5 * c))))], h2)) (P := True) rfl trivial ?_
    refine jt_callp (w := .inl (nI (sp_sd (sp_toc gc c)))) jm_m18 74 (mi' := 142) (as := [.inl (nI (sp_toc gc c))]) (rest := [.inl (nI (sp_sd (gc (38 + 5 * c))))]) (nxt := 126) rfl rfl jm_m142 rfl rfl (ta_sideOf (by omega)) ?_
    have bq3 := sp_sd_le (sp_toc gc c)
    refine jt_niceq jm_m18 75 (a := sp_sd (gc (38 + 5 * c))) (b := sp_sd (sp_toc gc c)) (by omega) (by omega) (tgt := 150) (nxt := 129) rfl rfl rfl (fun c126 => ?_) (fun c126 => ?_)
    · have c45 : sp_sd (gc (38 + 5 * c)) = sp_sd (sp_gone gc c false (38 + 5 * c)) := by rw [eg6]; exact c126
      refine jt_inc jm_m18 89 (c := c) (L' := [(1, .inl (nI (c + 1))), (0, .inr (.inr (2, j, 0))), (3, .inl (nI (gc (38 + 5 * c)))), (6, .inl (nI (sp_toc gc c)))]) rfl rfl rfl rfl ?_
      refine jt_go jm_m18 90 1 (f' := (7, [(1, .inl (nI (c + 1))), (0, .inr (.inr (2, j, 0))), (3, .inl (nI (gc (38 + 5 * c)))), (6, .inl (nI (sp_toc gc c)))], [], h2)) (P := True) rfl trivial ?_
      refine jt_pick (L' := [(0, .inr (.inr (2, j, 0))), (1, .inl (nI (c + 1)))]) [1, 0] rfl ?_
      have e1 : (sp_cats g false (c + 1)).1 = (sp_gone gc c false) := by show sp_one _ c false = _; rw [← egc]; unfold sp_one; rw [if_neg (not_not_intro c45)]; first | done | rfl
      have e2 : (sp_cats g false (c + 1)).2 = sc := by show (if _ then _ else _) = _; rw [← egc, ← esc, if_neg (not_not_intro c45)]
      exact nx (by omega) h2 (by rw [e1]; exact Rh2) Fh2 (by rw [e2]; exact Ch2)
    · have c45 : sp_sd (gc (38 + 5 * c)) ≠ sp_sd (sp_gone gc c false (38 + 5 * c)) := by rw [eg6]; exact c126
      refine jt_go jm_m18 76 3 (f' := (134, [(0, .inr (.inr (2, j, 0))), (1, .inl (nI c)), (3, .inl (nI (gc (38 + 5 * c)))), (6, .inl (nI (sp_toc gc c)))], [.inl (h2 (2, j, 0) 14), .inr (.inr (2, j, 0))], h2)) (P := True) rfl trivial ?_
      refine jt_ti (show (h2 (2, j, 0) 14) = nI sc from Ch2) ?_
      refine jt_go jm_m18 79 4 (f' := (138, [(0, .inr (.inr (2, j, 0))), (1, .inl (nI c)), (3, .inl (nI (gc (38 + 5 * c)))), (6, .inl (nI (sp_toc gc c)))], [.inl ((nI sc) ||| ((nI 1) <<< ((nI c) &&& 31))), .inr (.inr (2, j, 0))], h2)) (P := True) rfl trivial ?_
      refine jt_ti (show ((nI sc) ||| ((nI 1) <<< ((nI c) &&& 31))) = nI (sc + 2 ^ c) from jx_orb _ (by have := jx_p32 (c := c) (by omega); omega) _ (by omega) (by rw [Nat.div_eq_of_lt wc.2.2])) ?_
      refine jt_goM jm_m18 83 1 (pc' := 141) (L' := [(0, .inr (.inr (2, j, 0))), (1, .inl (nI c)), (3, .inl (nI (gc (38 + 5 * c)))), (6, .inl (nI (sp_toc gc c)))]) (st' := []) (m' := jm_set h2 (2, j, 0) (upd (h2 (2, j, 0)) 14 (nI (sc + 2 ^ c)))) (P := True) rfl trivial (fun h3 eh3 => ?_)
      have Rh3 : jf_rel h3 j (sp_gone gc c false) := by rw [eh3]; exact jf_set_cr Rh2
      have Fh3 : jf_fr j h h3 := by rw [eh3]; exact jf_fr_set Fh2 ⟨Or.inl rfl, rfl⟩
      have Ch3 : h3 (2, j, 0) 14 = nI (sc + 2 ^ c) := by rw [eh3, jm_set_eq, jx_eq]
      refine jt_go jm_m18 84 3 (f' := (144, [(0, .inr (.inr (2, j, 0))), (1, .inl (nI c)), (3, .inl (nI (gc (38 + 5 * c)))), (6, .inl (nI (sp_toc gc c)))], [.inl (nI (gc (38 + 5 * c))), .inl (nI c), .inr (.inr (2, j, 0))], h3)) (P := True) rfl trivial ?_
      refine jt_callp (w := .inl (nI (sp_sd (gc (38 + 5 * c))))) jm_m18 87 (mi' := 142) (as := [.inl (nI (gc (38 + 5 * c)))]) (rest := [.inl (nI c), .inr (.inr (2, j, 0))]) (nxt := 147) rfl rfl jm_m142 rfl rfl (ta_sideOf (by omega)) ?_
      have bq4 := sp_sd_le (gc (38 + 5 * c))
      refine jt_call jm_m18 88 (mi' := 22) (as := [.inr (.inr (2, j, 0)), .inl (nI c), .inl (nI (sp_sd (gc (38 + 5 * c))))]) (rest := []) (nxt := 150) rfl rfl jm_m22 rfl rfl (ta_letPass Rh3 Wh2 hc2 (sp_sd_le _)) ?_
      rintro u h4 ⟨rfl, Rh4, Gh4⟩
      show jt_T 18 (150, [(0, .inr (.inr (2, j, 0))), (1, .inl (nI c)), (3, .inl (nI (gc (38 + 5 * c)))), (6, .inl (nI (sp_toc gc c)))], [], h4) _
      have Ch4 : h4 (2, j, 0) 14 = nI (sc + 2 ^ c) := Gh4.2.trans Ch3
      have Fh4 := jf_fr_tr Fh3 Gh4.1
      refine jt_inc jm_m18 89 (c := c) (L' := [(1, .inl (nI (c + 1))), (0, .inr (.inr (2, j, 0))), (3, .inl (nI (gc (38 + 5 * c)))), (6, .inl (nI (sp_toc gc c)))]) rfl rfl rfl rfl ?_
      refine jt_go jm_m18 90 1 (f' := (7, [(1, .inl (nI (c + 1))), (0, .inr (.inr (2, j, 0))), (3, .inl (nI (gc (38 + 5 * c)))), (6, .inl (nI (sp_toc gc c)))], [], h4)) (P := True) rfl trivial ?_
      refine jt_pick (L' := [(0, .inr (.inr (2, j, 0))), (1, .inl (nI (c + 1)))]) [1, 0] rfl ?_
      have e1 : (sp_cats g false (c + 1)).1 = sp_pass (sp_gone gc c false) c (sp_sd (gc (38 + 5 * c))) := by show sp_one _ c false = _; rw [← egc]; unfold sp_one; rw [if_pos c45]; first | done | rfl
      have e2 : (sp_cats g false (c + 1)).2 = sc + 2 ^ c := by show (if _ then _ else _) = _; rw [← egc, ← esc, if_pos c45]
      exact nx (by omega) h4 (by rw [e1]; exact Rh4) Fh4 (by rw [e2]; exact Ch4))
set_option maxHeartbeats 4000000 in
set_option maxRecDepth 20000 in
theorem ta_hour {h : jm_M} {j : Nat} {g : Nat → Nat} (R : jf_rel h j g) (W : jw g)  : jt_T 18 (0, [(0, .inr (.inr (2, j, 0)))], [], h) (fun u h' => u = none ∧ jf_rel h' j (sp_hour g false) ∧ jf_fr j h h' ∧ h' (2, j, 0) 14 = nI (sp_set g false)) := by
  refine jt_goM jm_m18 0 3 (pc' := 5) (L' := [(0, .inr (.inr (2, j, 0)))]) (st' := []) (m' := jm_set h (2, j, 0) (upd (h (2, j, 0)) 14 (nI 0))) (P := True) rfl trivial (fun h1 eh1 => ?_)
  have Fh1 : jf_fr j h h1 := by rw [eh1]; exact jf_fr_set jf_fr_rf ⟨Or.inl rfl, rfl⟩
  have Rh1 : jf_rel h1 j g := by rw [eh1]; exact jf_set_cr R
  refine jt_go jm_m18 3 2 (f' := (7, [(1, .inl (nI 0)), (0, .inr (.inr (2, j, 0)))], [], h1)) (P := True) rfl trivial ?_
  refine jt_pick (L' := [(0, .inr (.inr (2, j, 0))), (1, .inl (nI 0))]) [1, 0] rfl ?_
  exact ta_hour_l W 0 (Nat.zero_le _) _ Rh1 Fh1 (by rw [eh1, jm_set_eq, jx_eq]; rfl)
set_option maxHeartbeats 4000000 in
set_option maxRecDepth 20000 in
theorem ta_hourk_l {h : jm_M} {j : Nat} {g : Nat → Nat} (W : jw g) : ∀ c, c ≤ g 0 → ∀ hm : jm_M, (jf_rel hm j (sp_cats g true c).1) → (jf_fr j h hm) → (hm (2, j, 0) 14 = nI 0) → jt_T 19 (7, [(0, .inr (.inr (2, j, 0))), (1, .inl (nI c))], [], hm) (fun u h' => u = none ∧ jf_rel h' j (sp_hour g true) ∧ jf_fr j h h' ∧ h' (2, j, 0) 14 = nI (sp_set g true)) := jx_up (P := fun c => ∀ hm : jm_M, (jf_rel hm j (sp_cats g true c).1) → (jf_fr j h hm) → (hm (2, j, 0) 14 = nI 0) → jt_T 19 (7, [(0, .inr (.inr (2, j, 0))), (1, .inl (nI c))], [], hm) (fun u h' => u = none ∧ jf_rel h' j (sp_hour g true) ∧ jf_fr j h h' ∧ h' (2, j, 0) 14 = nI (sp_set g true))) (fun c hk nx hm Rm Fm Cm => by
  have wc := jw_cats W (kept := true) c hk
  obtain ⟨gc, egc⟩ : ∃ y, y = (sp_cats g true c).1 := ⟨_, rfl⟩
  obtain ⟨sc, esc⟩ : ∃ y, y = (sp_cats g true c).2 := ⟨_, rfl⟩
  rw [← egc, ← esc] at wc
  rw [← egc] at Rm
  have Wc := wc.1
  have e0 := wc.2.1 0 (by decide)
  have bn := jw_n W
  refine jt_go jm_m19 5 3 (f' := (12, [(0, .inr (.inr (2, j, 0))), (1, .inl (nI c))], [.inl (hm (2, j, 0) 9), .inl (nI c)], hm)) (P := True) rfl trivial ?_
  refine jt_ti (show (hm (2, j, 0) 9) = nI (gc 0) from jf_cats Rm) ?_
  have bq1 := jw_n Wc
  refine jt_nicge jm_m19 8 (a := c) (b := gc 0) (by omega) (by omega) (tgt := 26) (nxt := 15) rfl rfl rfl (fun c12 => ?_) (fun c12 => ?_)
  · refine jt_go jm_m19 14 1 (f' := (27, [(0, .inr (.inr (2, j, 0))), (1, .inl (nI c))], [.inr (.inr (2, j, 0))], hm)) (P := True) rfl trivial ?_
    refine jt_call jm_m19 15 (mi' := 23) (as := [.inr (.inr (2, j, 0))]) (rest := []) (nxt := 30) rfl rfl jm_m23 rfl rfl (ta_clock Rm Wc) ?_
    rintro u h9 ⟨rfl, Rh9, Fh9⟩
    show jt_T 19 (30, [(0, .inr (.inr (2, j, 0))), (1, .inl (nI c))], [], h9) _
    refine jt_vret jm_m19 16 rfl ?_
    have e : c = g 0 := by omega
    subst e
    refine ⟨rfl, ?_, jf_fr_tr Fm Fh9.1, ?_⟩
    · unfold sp_hour; rw [← egc]; exact Rh9
    · unfold sp_set; rw [sp_cats_k]; exact Fh9.2.trans Cm
  · refine jt_go jm_m19 9 2 (f' := (17, [(0, .inr (.inr (2, j, 0))), (1, .inl (nI c))], [.inl (nI c), .inr (.inr (2, j, 0))], hm)) (P := True) rfl trivial ?_
    refine jt_call jm_m19 11 (mi' := 21) (as := [.inr (.inr (2, j, 0)), .inl (nI c)]) (rest := []) (nxt := 20) rfl rfl jm_m21 rfl rfl (ta_grow Rm Wc (by omega)) ?_
    rintro u h1 ⟨rfl, Rh1, Fh1⟩
    show jt_T 19 (20, [(0, .inr (.inr (2, j, 0))), (1, .inl (nI c))], [], h1) _
    refine jt_inc jm_m19 12 (c := c) (L' := [(1, .inl (nI (c + 1))), (0, .inr (.inr (2, j, 0)))]) rfl rfl rfl rfl ?_
    refine jt_go jm_m19 13 1 (f' := (7, [(1, .inl (nI (c + 1))), (0, .inr (.inr (2, j, 0)))], [], h1)) (P := True) rfl trivial ?_
    refine jt_pick (L' := [(0, .inr (.inr (2, j, 0))), (1, .inl (nI (c + 1)))]) [1, 0] rfl ?_
    have e1 : (sp_cats g true (c + 1)).1 = sp_hair gc c := by show sp_one _ c true = _; rw [← egc]; exact sp_one_k
    exact nx (by omega) h1 (by rw [e1]; exact Rh1) (jf_fr_tr Fm Fh1.1) (Fh1.2.trans Cm))
set_option maxHeartbeats 4000000 in
set_option maxRecDepth 20000 in
theorem ta_hourk {h : jm_M} {j : Nat} {g : Nat → Nat} (R : jf_rel h j g) (W : jw g)  : jt_T 19 (0, [(0, .inr (.inr (2, j, 0)))], [], h) (fun u h' => u = none ∧ jf_rel h' j (sp_hour g true) ∧ jf_fr j h h' ∧ h' (2, j, 0) 14 = nI (sp_set g true)) := by
  refine jt_goM jm_m19 0 3 (pc' := 5) (L' := [(0, .inr (.inr (2, j, 0)))]) (st' := []) (m' := jm_set h (2, j, 0) (upd (h (2, j, 0)) 14 (nI 0))) (P := True) rfl trivial (fun h1 eh1 => ?_)
  have Fh1 : jf_fr j h h1 := by rw [eh1]; exact jf_fr_set jf_fr_rf ⟨Or.inl rfl, rfl⟩
  have Rh1 : jf_rel h1 j g := by rw [eh1]; exact jf_set_cr R
  refine jt_go jm_m19 3 2 (f' := (7, [(1, .inl (nI 0)), (0, .inr (.inr (2, j, 0)))], [], h1)) (P := True) rfl trivial ?_
  refine jt_pick (L' := [(0, .inr (.inr (2, j, 0))), (1, .inl (nI 0))]) [1, 0] rfl ?_
  exact ta_hourk_l W 0 (Nat.zero_le _) _ Rh1 Fh1 (by rw [eh1, jm_set_eq, jx_eq])
set_option maxHeartbeats 4000000 in
set_option maxRecDepth 20000 in
theorem ta_goOn_l {h : jm_M} {j n : Nat} {g : Nat → Nat} (W : jw g) (hn : n < 2 ^ 31) : ∀ k, k ≤ n → ∀ hm : jm_M, (jf_rel hm j (sp_it g k)) → (jf_fr j h hm) → jt_T 17 (2, [(0, .inr (.inr (2, j, 0))), (1, .inl (nI n)), (2, .inl (nI k))], [], hm) (fun u h' => u = none ∧ jf_rel h' j (sp_it g n) ∧ jf_fr j h h') := jx_up (P := fun k => ∀ hm : jm_M, (jf_rel hm j (sp_it g k)) → (jf_fr j h hm) → jt_T 17 (2, [(0, .inr (.inr (2, j, 0))), (1, .inl (nI n)), (2, .inl (nI k))], [], hm) (fun u h' => u = none ∧ jf_rel h' j (sp_it g n) ∧ jf_fr j h h')) (fun k hk nx hm Rm Fm => by
  have Wk := (jw_it W k).1
  refine jt_go jm_m17 2 2 (f' := (4, [(0, .inr (.inr (2, j, 0))), (1, .inl (nI n)), (2, .inl (nI k))], [.inl (nI n), .inl (nI k)], hm)) (P := True) rfl trivial ?_
  refine jt_nicge jm_m17 4 (a := k) (b := n) (by omega) (by omega) (tgt := 17) (nxt := 7) rfl rfl rfl (fun c4 => ?_) (fun c4 => ?_)
  · refine jt_vret jm_m17 9 rfl ?_
    have e : k = n := by omega
    subst e
    exact ⟨rfl, Rm, Fm⟩
  · refine jt_go jm_m17 5 1 (f' := (8, [(0, .inr (.inr (2, j, 0))), (1, .inl (nI n)), (2, .inl (nI k))], [.inr (.inr (2, j, 0))], hm)) (P := True) rfl trivial ?_
    refine jt_call jm_m17 6 (mi' := 18) (as := [.inr (.inr (2, j, 0))]) (rest := []) (nxt := 11) rfl rfl jm_m18 rfl rfl (ta_hour Rm Wk) ?_
    rintro u h1 ⟨rfl, Rh1, Fh1, Ch1⟩
    show jt_T 17 (11, [(0, .inr (.inr (2, j, 0))), (1, .inl (nI n)), (2, .inl (nI k))], [], h1) _
    refine jt_inc jm_m17 7 (c := k) (L' := [(2, .inl (nI (k + 1))), (0, .inr (.inr (2, j, 0))), (1, .inl (nI n))]) rfl rfl rfl rfl ?_
    refine jt_go jm_m17 8 1 (f' := (2, [(2, .inl (nI (k + 1))), (0, .inr (.inr (2, j, 0))), (1, .inl (nI n))], [], h1)) (P := True) rfl trivial ?_
    refine jt_pick (L' := [(0, .inr (.inr (2, j, 0))), (1, .inl (nI n)), (2, .inl (nI (k + 1)))]) [1, 2, 0] rfl ?_
    exact nx c4 h1 Rh1 (jf_fr_tr Fm Fh1))
set_option maxHeartbeats 4000000 in
set_option maxRecDepth 20000 in
theorem ta_goOn {h : jm_M} {j : Nat} {g : Nat → Nat} (R : jf_rel h j g) (W : jw g) {n : Nat} (hn : n < 2 ^ 31) : jt_T 17 (0, [(0, .inr (.inr (2, j, 0))), (1, .inl (nI n))], [], h) (fun u h' => u = none ∧ jf_rel h' j (sp_it g n) ∧ jf_fr j h h') := by
  refine jt_go jm_m17 0 2 (f' := (2, [(2, .inl (nI 0)), (0, .inr (.inr (2, j, 0))), (1, .inl (nI n))], [], h)) (P := True) rfl trivial ?_
  refine jt_pick (L' := [(0, .inr (.inr (2, j, 0))), (1, .inl (nI n)), (2, .inl (nI 0))]) [1, 2, 0] rfl ?_
  exact ta_goOn_l W hn 0 (Nat.zero_le _) _ R jf_fr_rf
set_option maxHeartbeats 4000000 in
set_option maxRecDepth 20000 in
theorem ta_name {h : jm_M} {j : Nat} {g : Nat → Nat} (R : jf_rel h j g) (W : jw g) {c m : Nat} (hc : c < 6) : jt_T 15 (0, [(0, .inr (.inr (2, j, 0))), (1, .inl (nI c)), (2, .inl (nI m))], [], h) (fun u h' => u = none ∧ jf_rel h' j (sp_up (sp_up g (40 + 5 * c) m) (39 + 5 * c) 0) ∧ jf_fr j h h') := by
  refine jt_goM jm_m15 0 5 (pc' := 7) (L' := [(0, .inr (.inr (2, j, 0))), (1, .inl (nI c)), (2, .inl (nI m))]) (st' := []) (m' := jm_set h (2, j, 5) (upd (h (2, j, 5)) (nI c).toNatClampNeg (nI m))) (P := vp_in (nI c) 6 ∧ True) rfl ⟨(vp_in_nI (by omega) (by decide)), trivial⟩ (fun h1 eh1 => ?_)
  have Fh1 : jf_fr j h h1 := by rw [eh1]; exact jf_fr_set jf_fr_rf ⟨Or.inl rfl, rfl⟩
  obtain ⟨gh1, egh1⟩ : ∃ y, y = sp_up g (40 + 5 * c) (m) := ⟨_, rfl⟩
  have Rh1 : jf_rel h1 j gh1 := by rw [eh1, egh1]; exact jf_set_name R (c := c) (w := m) (nI_clamp (by omega)) (by omega) rfl
  refine jt_goM jm_m15 5 5 (pc' := 14) (L' := [(0, .inr (.inr (2, j, 0))), (1, .inl (nI c)), (2, .inl (nI m))]) (st' := []) (m' := jm_set h1 (2, j, 4) (upd (h1 (2, j, 4)) (nI c).toNatClampNeg (nI 0))) (P := vp_in (nI c) 6 ∧ True) rfl ⟨(vp_in_nI (by omega) (by decide)), trivial⟩ (fun h2 eh2 => ?_)
  have Fh2 : jf_fr j h h2 := by rw [eh2]; exact jf_fr_set Fh1 ⟨Or.inl rfl, rfl⟩
  obtain ⟨gh2, egh2⟩ : ∃ y, y = sp_up gh1 (39 + 5 * c) (0) := ⟨_, rfl⟩
  have Rh2 : jf_rel h2 j gh2 := by rw [eh2, egh2]; exact jf_set_hair Rh1 (c := c) (w := 0) (nI_clamp (by omega)) (by omega) rfl
  refine jt_vret jm_m15 10 rfl ?_
  rw [← egh1, ← egh2]
  exact ⟨rfl, Rh2, Fh2⟩
set_option maxHeartbeats 4000000 in
set_option maxRecDepth 20000 in
theorem ta_addFish {h : jm_M} {j : Nat} {g : Nat → Nat} (R : jf_rel h j g) (W : jw g) {p v : Nat} (hp : p < 16) (hv : v < 100) : jt_T 16 (0, [(0, .inr (.inr (2, j, 0))), (1, .inl (nI p)), (2, .inl (nI v))], [], h) (fun u h' => u = none ∧ jf_rel h' j (sp_up g (4 + p) (min 9 (g (4 + p) + v))) ∧ jf_fr j h h') := by
  refine jt_go jm_m16 0 8 (f' := (13, [(0, .inr (.inr (2, j, 0))), (1, .inl (nI p)), (2, .inl (nI v))], [.inl (h (6, j, 0) (nI p).toNatClampNeg), .inl (nI 9), .inl (nI p), .inr (.inr (6, j, 0))], h)) (P := vp_in (nI p) 16 ∧ True) rfl ⟨(vp_in_nI (by omega) (by decide)), trivial⟩ ?_
  refine jt_ti (show (h (6, j, 0) (nI p).toNatClampNeg) = nI (g (4 + p)) from jf_fish R (c := p) (nI_clamp (by omega)) (by omega)) ?_
  have bq1 := jw_fish W (p := p) (by omega)
  refine jt_go jm_m16 8 2 (f' := (15, [(0, .inr (.inr (2, j, 0))), (1, .inl (nI p)), (2, .inl (nI v))], [.inl ((nI (g (4 + p))) + (nI v)), .inl (nI 9), .inl (nI p), .inr (.inr (6, j, 0))], h)) (P := True) rfl trivial ?_
  refine jt_ti (show ((nI (g (4 + p))) + (nI v)) = nI (g (4 + p) + v) from nI_add _ _) ?_
  refine jt_go jm_m16 10 1 (f' := (18, [(0, .inr (.inr (2, j, 0))), (1, .inl (nI p)), (2, .inl (nI v))], [.inl (if (nI (g (4 + p) + v)) < (nI 9) then (nI (g (4 + p) + v)) else (nI 9)), .inl (nI p), .inr (.inr (6, j, 0))], h)) (P := True) rfl trivial ?_
  refine jt_ti (show (if (nI (g (4 + p) + v)) < (nI 9) then (nI (g (4 + p) + v)) else (nI 9)) = nI (min 9 (g (4 + p) + v)) from jx_min (by omega) (by omega)) ?_
  refine jt_goM jm_m16 11 1 (pc' := 19) (L' := [(0, .inr (.inr (2, j, 0))), (1, .inl (nI p)), (2, .inl (nI v))]) (st' := []) (m' := jm_set h (6, j, 0) (upd (h (6, j, 0)) (nI p).toNatClampNeg (nI (min 9 (g (4 + p) + v))))) (P := vp_in (nI p) 16 ∧ True) rfl ⟨(vp_in_nI (by omega) (by decide)), trivial⟩ (fun h1 eh1 => ?_)
  have Fh1 : jf_fr j h h1 := by rw [eh1]; exact jf_fr_set jf_fr_rf ⟨Or.inr rfl, rfl⟩
  obtain ⟨gh1, egh1⟩ : ∃ y, y = sp_up g (4 + p) (min 9 (g (4 + p) + v)) := ⟨_, rfl⟩
  have Rh1 : jf_rel h1 j gh1 := by rw [eh1, egh1]; exact jf_set_fish R (c := p) (w := min 9 (g (4 + p) + v)) (nI_clamp (by omega)) (by omega) rfl
  refine jt_vret jm_m16 12 rfl ?_
  rw [← egh1]
  exact ⟨rfl, Rh1, Fh1⟩
set_option maxHeartbeats 4000000 in
set_option maxRecDepth 20000 in
theorem ta_fish_l {h : jm_M} {j : Nat} {g : Nat → Nat} (R : jf_rel h j g) (W : jw g)  : ∀ k, k ≤ 16 → jt_T 31 (4, [(0, .inr (.inr (2, j, 0))), (1, .inl (nI (sp_sum (fun p => g (4 + p)) k))), (2, .inl (nI k))], [], h) (fun u h' => u = some (.inl (nI (sp_sum (fun p => g (4 + p)) 16))) ∧ h' = h) := jx_up (fun k hk nx => by
  refine jt_go jm_m31 4 2 (f' := (7, [(0, .inr (.inr (2, j, 0))), (1, .inl (nI (sp_sum (fun p => g (4 + p)) k))), (2, .inl (nI k))], [.inl (nI 16), .inl (nI k)], h)) (P := True) rfl trivial ?_
  refine jt_nicge jm_m31 6 (a := k) (b := 16) (by omega) (by omega) (tgt := 25) (nxt := 10) rfl rfl rfl (fun c7 => ?_) (fun c7 => ?_)
  · refine jt_go jm_m31 16 1 (f' := (26, [(0, .inr (.inr (2, j, 0))), (1, .inl (nI (sp_sum (fun p => g (4 + p)) k))), (2, .inl (nI k))], [.inl (nI (sp_sum (fun p => g (4 + p)) k))], h)) (P := True) rfl trivial ?_
    refine jt_iret jm_m31 17 rfl ?_
    have e : k = 16 := by omega
    subst e
    exact ⟨rfl, rfl⟩
  · refine jt_go jm_m31 7 5 (f' := (17, [(0, .inr (.inr (2, j, 0))), (1, .inl (nI (sp_sum (fun p => g (4 + p)) k))), (2, .inl (nI k))], [.inl (h (6, j, 0) (nI k).toNatClampNeg), .inl (nI (sp_sum (fun p => g (4 + p)) k))], h)) (P := vp_in (nI k) 16 ∧ True) rfl ⟨(vp_in_nI (by omega) (by decide)), trivial⟩ ?_
    refine jt_ti (show (h (6, j, 0) (nI k).toNatClampNeg) = nI (g (4 + k)) from jf_fish R (c := k) (nI_clamp (by omega)) (by omega)) ?_
    have bq1 := jw_fish W (p := k) (by omega)
    refine jt_go jm_m31 12 1 (f' := (18, [(0, .inr (.inr (2, j, 0))), (1, .inl (nI (sp_sum (fun p => g (4 + p)) k))), (2, .inl (nI k))], [.inl ((nI (sp_sum (fun p => g (4 + p)) k)) + (nI (g (4 + k))))], h)) (P := True) rfl trivial ?_
    refine jt_ti (show ((nI (sp_sum (fun p => g (4 + p)) k)) + (nI (g (4 + k)))) = nI (sp_sum (fun p => g (4 + p)) k + (g (4 + k))) from nI_add _ _) ?_
    refine jt_go jm_m31 13 1 (f' := (19, [(1, .inl (nI (sp_sum (fun p => g (4 + p)) k + (g (4 + k))))), (0, .inr (.inr (2, j, 0))), (2, .inl (nI k))], [], h)) (P := True) rfl trivial ?_
    refine jt_inc jm_m31 14 (c := k) (L' := [(2, .inl (nI (k + 1))), (1, .inl (nI (sp_sum (fun p => g (4 + p)) k + (g (4 + k))))), (0, .inr (.inr (2, j, 0)))]) rfl rfl rfl rfl ?_
    refine jt_go jm_m31 15 1 (f' := (4, [(2, .inl (nI (k + 1))), (1, .inl (nI (sp_sum (fun p => g (4 + p)) k + (g (4 + k))))), (0, .inr (.inr (2, j, 0)))], [], h)) (P := True) rfl trivial ?_
    refine jt_pick (L' := [(0, .inr (.inr (2, j, 0))), (1, .inl (nI (sp_sum (fun p => g (4 + p)) k + (g (4 + k))))), (2, .inl (nI (k + 1)))]) [2, 1, 0] rfl ?_
    exact nx c7)
set_option maxHeartbeats 4000000 in
set_option maxRecDepth 20000 in
theorem ta_fish {h : jm_M} {j : Nat} {g : Nat → Nat} (R : jf_rel h j g) (W : jw g)  : jt_Pu 31 [.inr (.inr (2, j, 0))] h (.inl (nI (sp_sum (fun p => g (4 + p)) 16))) := by
  show jt_T 31 (0, [(0, .inr (.inr (2, j, 0)))], [], h) _
  refine jt_go jm_m31 0 4 (f' := (4, [(2, .inl (nI 0)), (1, .inl (nI 0)), (0, .inr (.inr (2, j, 0)))], [], h)) (P := True) rfl trivial ?_
  refine jt_pick (L' := [(0, .inr (.inr (2, j, 0))), (1, .inl (nI 0)), (2, .inl (nI 0))]) [2, 1, 0] rfl ?_
  exact ta_fish_l R W 0 (Nat.zero_le _)
set_option maxHeartbeats 4000000 in
set_option maxRecDepth 20000 in
theorem ta_side1_l {h : jm_M} {j : Nat} {g : Nat → Nat} (R : jf_rel h j g) (W : jw g)  : ∀ k, k ≤ g 0 → jt_T 30 (4, [(0, .inr (.inr (2, j, 0))), (1, .inl (nI (sp_sum (fun c => sp_sd (g (38 + 5 * c))) k))), (2, .inl (nI k))], [], h) (fun u h' => u = some (.inl (nI (sp_sum (fun c => sp_sd (g (38 + 5 * c))) (g 0)))) ∧ h' = h) := jx_up (fun k hk nx => by
  have bn := jw_n W
  have bm := jw_m W
  have bt := jw_t W
  refine jt_go jm_m30 4 3 (f' := (9, [(0, .inr (.inr (2, j, 0))), (1, .inl (nI (sp_sum (fun c => sp_sd (g (38 + 5 * c))) k))), (2, .inl (nI k))], [.inl (h (2, j, 0) 9), .inl (nI k)], h)) (P := True) rfl trivial ?_
  refine jt_ti (show (h (2, j, 0) 9) = nI (g 0) from jf_cats R) ?_
  have bq1 := jw_n W
  refine jt_nicge jm_m30 7 (a := k) (b := g 0) (by omega) (by omega) (tgt := 30) (nxt := 12) rfl rfl rfl (fun c9 => ?_) (fun c9 => ?_)
  · refine jt_go jm_m30 18 1 (f' := (31, [(0, .inr (.inr (2, j, 0))), (1, .inl (nI (sp_sum (fun c => sp_sd (g (38 + 5 * c))) k))), (2, .inl (nI k))], [.inl (nI (sp_sum (fun c => sp_sd (g (38 + 5 * c))) k))], h)) (P := True) rfl trivial ?_
    refine jt_iret jm_m30 19 rfl ?_
    have e : k = g 0 := by omega
    subst e
    exact ⟨rfl, rfl⟩
  · refine jt_go jm_m30 8 5 (f' := (19, [(0, .inr (.inr (2, j, 0))), (1, .inl (nI (sp_sum (fun c => sp_sd (g (38 + 5 * c))) k))), (2, .inl (nI k))], [.inl (h (2, j, 3) (nI k).toNatClampNeg), .inl (nI (sp_sum (fun c => sp_sd (g (38 + 5 * c))) k))], h)) (P := vp_in (nI k) 6 ∧ True) rfl ⟨(vp_in_nI (by omega) (by decide)), trivial⟩ ?_
    refine jt_ti (show (h (2, j, 3) (nI k).toNatClampNeg) = nI (g (38 + 5 * k)) from jf_at R (c := k) (nI_clamp (by omega)) (by omega)) ?_
    have bq2 := jw_at W (c := k) (by omega)
    refine jt_callp (w := .inl (nI (sp_sd (g (38 + 5 * k))))) jm_m30 13 (mi' := 142) (as := [.inl (nI (g (38 + 5 * k)))]) (rest := [.inl (nI (sp_sum (fun c => sp_sd (g (38 + 5 * c))) k))]) (nxt := 22) rfl rfl jm_m142 rfl rfl (ta_sideOf (by omega)) ?_
    have bq3 := sp_sd_le (g (38 + 5 * k))
    refine jt_go jm_m30 14 1 (f' := (23, [(0, .inr (.inr (2, j, 0))), (1, .inl (nI (sp_sum (fun c => sp_sd (g (38 + 5 * c))) k))), (2, .inl (nI k))], [.inl ((nI (sp_sum (fun c => sp_sd (g (38 + 5 * c))) k)) + (nI (sp_sd (g (38 + 5 * k)))))], h)) (P := True) rfl trivial ?_
    refine jt_ti (show ((nI (sp_sum (fun c => sp_sd (g (38 + 5 * c))) k)) + (nI (sp_sd (g (38 + 5 * k))))) = nI (sp_sum (fun c => sp_sd (g (38 + 5 * c))) k + (sp_sd (g (38 + 5 * k)))) from nI_add _ _) ?_
    refine jt_go jm_m30 15 1 (f' := (24, [(1, .inl (nI (sp_sum (fun c => sp_sd (g (38 + 5 * c))) k + (sp_sd (g (38 + 5 * k)))))), (0, .inr (.inr (2, j, 0))), (2, .inl (nI k))], [], h)) (P := True) rfl trivial ?_
    refine jt_inc jm_m30 16 (c := k) (L' := [(2, .inl (nI (k + 1))), (1, .inl (nI (sp_sum (fun c => sp_sd (g (38 + 5 * c))) k + (sp_sd (g (38 + 5 * k)))))), (0, .inr (.inr (2, j, 0)))]) rfl rfl rfl rfl ?_
    refine jt_go jm_m30 17 1 (f' := (4, [(2, .inl (nI (k + 1))), (1, .inl (nI (sp_sum (fun c => sp_sd (g (38 + 5 * c))) k + (sp_sd (g (38 + 5 * k)))))), (0, .inr (.inr (2, j, 0)))], [], h)) (P := True) rfl trivial ?_
    refine jt_pick (L' := [(0, .inr (.inr (2, j, 0))), (1, .inl (nI (sp_sum (fun c => sp_sd (g (38 + 5 * c))) k + (sp_sd (g (38 + 5 * k)))))), (2, .inl (nI (k + 1)))]) [2, 1, 0] rfl ?_
    exact nx c9)
set_option maxHeartbeats 4000000 in
set_option maxRecDepth 20000 in
theorem ta_side1 {h : jm_M} {j : Nat} {g : Nat → Nat} (R : jf_rel h j g) (W : jw g)  : jt_Pu 30 [.inr (.inr (2, j, 0))] h (.inl (nI (sp_sum (fun c => sp_sd (g (38 + 5 * c))) (g 0)))) := by
  show jt_T 30 (0, [(0, .inr (.inr (2, j, 0)))], [], h) _
  refine jt_go jm_m30 0 4 (f' := (4, [(2, .inl (nI 0)), (1, .inl (nI 0)), (0, .inr (.inr (2, j, 0)))], [], h)) (P := True) rfl trivial ?_
  refine jt_pick (L' := [(0, .inr (.inr (2, j, 0))), (1, .inl (nI 0)), (2, .inl (nI 0))]) [2, 1, 0] rfl ?_
  exact ta_side1_l R W 0 (Nat.zero_le _)
set_option maxHeartbeats 4000000 in
set_option maxRecDepth 20000 in
theorem ta_readable_l {h : jm_M} {j : Nat} {g : Nat → Nat} (R : jf_rel h j g) (W : jw g)  : ∀ k, k ≤ g 0 → jt_T 27 (4, [(0, .inr (.inr (2, j, 0))), (1, .inl (nI (sp_bits (fun c => decide (sp_read g c)) k))), (2, .inl (nI k))], [], h) (fun u h' => u = some (.inl (nI (sp_bits (fun c => decide (sp_read g c)) (g 0)))) ∧ h' = h) := jx_up (fun k hk nx => by
  have bn := jw_n W
  have bm := jw_m W
  have bt := jw_t W
  have bs := sp_bits_lt (fun c => decide (sp_read g c)) k
  refine jt_go jm_m27 4 3 (f' := (9, [(0, .inr (.inr (2, j, 0))), (1, .inl (nI (sp_bits (fun c => decide (sp_read g c)) k))), (2, .inl (nI k))], [.inl (h (2, j, 0) 9), .inl (nI k)], h)) (P := True) rfl trivial ?_
  refine jt_ti (show (h (2, j, 0) 9) = nI (g 0) from jf_cats R) ?_
  have bq1 := jw_n W
  refine jt_nicge jm_m27 7 (a := k) (b := g 0) (by omega) (by omega) (tgt := 32) (nxt := 12) rfl rfl rfl (fun c9 => ?_) (fun c9 => ?_)
  · refine jt_go jm_m27 20 1 (f' := (33, [(0, .inr (.inr (2, j, 0))), (1, .inl (nI (sp_bits (fun c => decide (sp_read g c)) k))), (2, .inl (nI k))], [.inl (nI (sp_bits (fun c => decide (sp_read g c)) k))], h)) (P := True) rfl trivial ?_
    refine jt_iret jm_m27 21 rfl ?_
    have e : k = g 0 := by omega
    subst e
    exact ⟨rfl, rfl⟩
  · refine jt_go jm_m27 8 2 (f' := (14, [(0, .inr (.inr (2, j, 0))), (1, .inl (nI (sp_bits (fun c => decide (sp_read g c)) k))), (2, .inl (nI k))], [.inl (nI k), .inr (.inr (2, j, 0))], h)) (P := True) rfl trivial ?_
    refine jt_callp (w := .inl (jm_b (sp_read g k))) jm_m27 10 (mi' := 26) (as := [.inr (.inr (2, j, 0)), .inl (nI k)]) (rest := []) (nxt := 17) rfl rfl jm_m26 rfl rfl (ta_read R W (by omega)) ?_
    refine jt_ifbeq jm_m27 11 (tgt := 26) (nxt := 20) rfl rfl rfl (fun c17 => ?_) (fun c17 => ?_)
    · refine jt_inc jm_m27 18 (c := k) (L' := [(2, .inl (nI (k + 1))), (0, .inr (.inr (2, j, 0))), (1, .inl (nI (sp_bits (fun c => decide (sp_read g c)) k)))]) rfl rfl rfl rfl ?_
      refine jt_go jm_m27 19 1 (f' := (4, [(2, .inl (nI (k + 1))), (0, .inr (.inr (2, j, 0))), (1, .inl (nI (sp_bits (fun c => decide (sp_read g c)) k)))], [], h)) (P := True) rfl trivial ?_
      refine jt_pick (L' := [(0, .inr (.inr (2, j, 0))), (1, .inl (nI (sp_bits (fun c => decide (sp_read g c)) k))), (2, .inl (nI (k + 1)))]) [1, 2, 0] rfl ?_
      have e : sp_bits (fun c => decide (sp_read g c)) (k + 1) = sp_bits (fun c => decide (sp_read g c)) k := if_neg (fun z => c17 (of_decide_eq_true z))
      have q := nx c9
      rw [e] at q
      exact q
    · refine jt_go jm_m27 12 5 (f' := (25, [(0, .inr (.inr (2, j, 0))), (1, .inl (nI (sp_bits (fun c => decide (sp_read g c)) k))), (2, .inl (nI k))], [.inl ((nI (sp_bits (fun c => decide (sp_read g c)) k)) ||| ((nI 1) <<< ((nI k) &&& 31)))], h)) (P := True) rfl trivial ?_
      refine jt_ti (show ((nI (sp_bits (fun c => decide (sp_read g c)) k)) ||| ((nI 1) <<< ((nI k) &&& 31))) = nI (sp_bits (fun c => decide (sp_read g c)) k + 2 ^ k) from jx_orb _ (by have := jx_p32 (c := k) (by omega); omega) _ (by omega) (by rw [Nat.div_eq_of_lt bs])) ?_
      refine jt_go jm_m27 17 1 (f' := (26, [(1, .inl (nI (sp_bits (fun c => decide (sp_read g c)) k + 2 ^ k))), (0, .inr (.inr (2, j, 0))), (2, .inl (nI k))], [], h)) (P := True) rfl trivial ?_
      refine jt_inc jm_m27 18 (c := k) (L' := [(2, .inl (nI (k + 1))), (1, .inl (nI (sp_bits (fun c => decide (sp_read g c)) k + 2 ^ k))), (0, .inr (.inr (2, j, 0)))]) rfl rfl rfl rfl ?_
      refine jt_go jm_m27 19 1 (f' := (4, [(2, .inl (nI (k + 1))), (1, .inl (nI (sp_bits (fun c => decide (sp_read g c)) k + 2 ^ k))), (0, .inr (.inr (2, j, 0)))], [], h)) (P := True) rfl trivial ?_
      refine jt_pick (L' := [(0, .inr (.inr (2, j, 0))), (1, .inl (nI (sp_bits (fun c => decide (sp_read g c)) k + 2 ^ k))), (2, .inl (nI (k + 1)))]) [2, 1, 0] rfl ?_
      have e : sp_bits (fun c => decide (sp_read g c)) (k + 1) = sp_bits (fun c => decide (sp_read g c)) k + 2 ^ k := if_pos (decide_eq_true c17)
      have q := nx c9
      rw [e] at q
      exact q)
set_option maxHeartbeats 4000000 in
set_option maxRecDepth 20000 in
theorem ta_readable {h : jm_M} {j : Nat} {g : Nat → Nat} (R : jf_rel h j g) (W : jw g)  : jt_Pu 27 [.inr (.inr (2, j, 0))] h (.inl (nI (sp_bits (fun c => decide (sp_read g c)) (g 0)))) := by
  show jt_T 27 (0, [(0, .inr (.inr (2, j, 0)))], [], h) _
  refine jt_go jm_m27 0 4 (f' := (4, [(2, .inl (nI 0)), (1, .inl (nI 0)), (0, .inr (.inr (2, j, 0)))], [], h)) (P := True) rfl trivial ?_
  refine jt_pick (L' := [(0, .inr (.inr (2, j, 0))), (1, .inl (nI 0)), (2, .inl (nI 0))]) [2, 1, 0] rfl ?_
  exact ta_readable_l R W  0 (Nat.zero_le _)
set_option maxHeartbeats 4000000 in
set_option maxRecDepth 20000 in
theorem ta_catsAt_l {h : jm_M} {j : Nat} {g : Nat → Nat} (R : jf_rel h j g) (W : jw g) {p : Nat} (hp : p < 16) : ∀ k, k ≤ g 0 → jt_T 28 (4, [(0, .inr (.inr (2, j, 0))), (1, .inl (nI p)), (2, .inl (nI (sp_bits (fun c => decide (g (38 + 5 * c) = p)) k))), (3, .inl (nI k))], [], h) (fun u h' => u = some (.inl (nI (sp_bits (fun c => decide (g (38 + 5 * c) = p)) (g 0)))) ∧ h' = h) := jx_up (fun k hk nx => by
  have bn := jw_n W
  have bm := jw_m W
  have bt := jw_t W
  have bs := sp_bits_lt (fun c => decide (g (38 + 5 * c) = p)) k
  refine jt_go jm_m28 4 3 (f' := (9, [(0, .inr (.inr (2, j, 0))), (1, .inl (nI p)), (2, .inl (nI (sp_bits (fun c => decide (g (38 + 5 * c) = p)) k))), (3, .inl (nI k))], [.inl (h (2, j, 0) 9), .inl (nI k)], h)) (P := True) rfl trivial ?_
  refine jt_ti (show (h (2, j, 0) 9) = nI (g 0) from jf_cats R) ?_
  have bq1 := jw_n W
  refine jt_nicge jm_m28 7 (a := k) (b := g 0) (by omega) (by omega) (tgt := 34) (nxt := 12) rfl rfl rfl (fun c9 => ?_) (fun c9 => ?_)
  · refine jt_go jm_m28 22 1 (f' := (35, [(0, .inr (.inr (2, j, 0))), (1, .inl (nI p)), (2, .inl (nI (sp_bits (fun c => decide (g (38 + 5 * c) = p)) k))), (3, .inl (nI k))], [.inl (nI (sp_bits (fun c => decide (g (38 + 5 * c) = p)) k))], h)) (P := True) rfl trivial ?_
    refine jt_iret jm_m28 23 rfl ?_
    have e : k = g 0 := by omega
    subst e
    exact ⟨rfl, rfl⟩
  · refine jt_go jm_m28 8 4 (f' := (18, [(0, .inr (.inr (2, j, 0))), (1, .inl (nI p)), (2, .inl (nI (sp_bits (fun c => decide (g (38 + 5 * c) = p)) k))), (3, .inl (nI k))], [.inl (h (2, j, 3) (nI k).toNatClampNeg)], h)) (P := vp_in (nI k) 6 ∧ True) rfl ⟨(vp_in_nI (by omega) (by decide)), trivial⟩ ?_
    refine jt_ti (show (h (2, j, 3) (nI k).toNatClampNeg) = nI (g (38 + 5 * k)) from jf_at R (c := k) (nI_clamp (by omega)) (by omega)) ?_
    have bq2 := jw_at W (c := k) (by omega)
    refine jt_go jm_m28 12 1 (f' := (19, [(0, .inr (.inr (2, j, 0))), (1, .inl (nI p)), (2, .inl (nI (sp_bits (fun c => decide (g (38 + 5 * c) = p)) k))), (3, .inl (nI k))], [.inl (nI p), .inl (nI (g (38 + 5 * k)))], h)) (P := True) rfl trivial ?_
    refine jt_nicne jm_m28 13 (a := g (38 + 5 * k)) (b := p) (by omega) (by omega) (tgt := 28) (nxt := 22) rfl rfl rfl (fun c19 => ?_) (fun c19 => ?_)
    · refine jt_inc jm_m28 20 (c := k) (L' := [(3, .inl (nI (k + 1))), (0, .inr (.inr (2, j, 0))), (1, .inl (nI p)), (2, .inl (nI (sp_bits (fun c => decide (g (38 + 5 * c) = p)) k)))]) rfl rfl rfl rfl ?_
      refine jt_go jm_m28 21 1 (f' := (4, [(3, .inl (nI (k + 1))), (0, .inr (.inr (2, j, 0))), (1, .inl (nI p)), (2, .inl (nI (sp_bits (fun c => decide (g (38 + 5 * c) = p)) k)))], [], h)) (P := True) rfl trivial ?_
      refine jt_pick (L' := [(0, .inr (.inr (2, j, 0))), (1, .inl (nI p)), (2, .inl (nI (sp_bits (fun c => decide (g (38 + 5 * c) = p)) k))), (3, .inl (nI (k + 1)))]) [1, 2, 3, 0] rfl ?_
      have e : sp_bits (fun c => decide (g (38 + 5 * c) = p)) (k + 1) = sp_bits (fun c => decide (g (38 + 5 * c) = p)) k := if_neg (fun z => c19 (of_decide_eq_true z))
      have q := nx c9
      rw [e] at q
      exact q
    · refine jt_go jm_m28 14 5 (f' := (27, [(0, .inr (.inr (2, j, 0))), (1, .inl (nI p)), (2, .inl (nI (sp_bits (fun c => decide (g (38 + 5 * c) = p)) k))), (3, .inl (nI k))], [.inl ((nI (sp_bits (fun c => decide (g (38 + 5 * c) = p)) k)) ||| ((nI 1) <<< ((nI k) &&& 31)))], h)) (P := True) rfl trivial ?_
      refine jt_ti (show ((nI (sp_bits (fun c => decide (g (38 + 5 * c) = p)) k)) ||| ((nI 1) <<< ((nI k) &&& 31))) = nI (sp_bits (fun c => decide (g (38 + 5 * c) = p)) k + 2 ^ k) from jx_orb _ (by have := jx_p32 (c := k) (by omega); omega) _ (by omega) (by rw [Nat.div_eq_of_lt bs])) ?_
      refine jt_go jm_m28 19 1 (f' := (28, [(2, .inl (nI (sp_bits (fun c => decide (g (38 + 5 * c) = p)) k + 2 ^ k))), (0, .inr (.inr (2, j, 0))), (1, .inl (nI p)), (3, .inl (nI k))], [], h)) (P := True) rfl trivial ?_
      refine jt_inc jm_m28 20 (c := k) (L' := [(3, .inl (nI (k + 1))), (2, .inl (nI (sp_bits (fun c => decide (g (38 + 5 * c) = p)) k + 2 ^ k))), (0, .inr (.inr (2, j, 0))), (1, .inl (nI p))]) rfl rfl rfl rfl ?_
      refine jt_go jm_m28 21 1 (f' := (4, [(3, .inl (nI (k + 1))), (2, .inl (nI (sp_bits (fun c => decide (g (38 + 5 * c) = p)) k + 2 ^ k))), (0, .inr (.inr (2, j, 0))), (1, .inl (nI p))], [], h)) (P := True) rfl trivial ?_
      refine jt_pick (L' := [(0, .inr (.inr (2, j, 0))), (1, .inl (nI p)), (2, .inl (nI (sp_bits (fun c => decide (g (38 + 5 * c) = p)) k + 2 ^ k))), (3, .inl (nI (k + 1)))]) [2, 3, 1, 0] rfl ?_
      have e : sp_bits (fun c => decide (g (38 + 5 * c) = p)) (k + 1) = sp_bits (fun c => decide (g (38 + 5 * c) = p)) k + 2 ^ k := if_pos (decide_eq_true c19)
      have q := nx c9
      rw [e] at q
      exact q)
set_option maxHeartbeats 4000000 in
set_option maxRecDepth 20000 in
theorem ta_catsAt {h : jm_M} {j : Nat} {g : Nat → Nat} (R : jf_rel h j g) (W : jw g) {p : Nat} (hp : p < 16) : jt_Pu 28 [.inr (.inr (2, j, 0)), .inl (nI p)] h (.inl (nI (sp_bits (fun c => decide (g (38 + 5 * c) = p)) (g 0)))) := by
  show jt_T 28 (0, [(0, .inr (.inr (2, j, 0))), (1, .inl (nI p))], [], h) _
  refine jt_go jm_m28 0 4 (f' := (4, [(3, .inl (nI 0)), (2, .inl (nI 0)), (0, .inr (.inr (2, j, 0))), (1, .inl (nI p))], [], h)) (P := True) rfl trivial ?_
  refine jt_pick (L' := [(0, .inr (.inr (2, j, 0))), (1, .inl (nI p)), (2, .inl (nI 0)), (3, .inl (nI 0))]) [2, 3, 1, 0] rfl ?_
  exact ta_catsAt_l R W hp 0 (Nat.zero_le _)
set_option maxHeartbeats 4000000 in
set_option maxRecDepth 20000 in
theorem ta_plc_l {h : jm_M} {j : Nat} {g : Nat → Nat} (R : jf_rel h j g) (W : jw g)  : ∀ k, k ≤ g 0 → jt_T 29 (4, [(0, .inr (.inr (2, j, 0))), (1, .inl (sp_plc g k)), (2, .inl (nI k))], [], h) (fun u h' => u = some (.inl (sp_plc g (g 0))) ∧ h' = h) := jx_up (fun k hk nx => by
  have bn := jw_n W
  have bm := jw_m W
  have bt := jw_t W
  refine jt_go jm_m29 4 3 (f' := (9, [(0, .inr (.inr (2, j, 0))), (1, .inl (sp_plc g k)), (2, .inl (nI k))], [.inl (h (2, j, 0) 9), .inl (nI k)], h)) (P := True) rfl trivial ?_
  refine jt_ti (show (h (2, j, 0) 9) = nI (g 0) from jf_cats R) ?_
  have bq1 := jw_n W
  refine jt_nicge jm_m29 7 (a := k) (b := g 0) (by omega) (by omega) (tgt := 29) (nxt := 12) rfl rfl rfl (fun c9 => ?_) (fun c9 => ?_)
  · refine jt_go jm_m29 19 1 (f' := (30, [(0, .inr (.inr (2, j, 0))), (1, .inl (sp_plc g k)), (2, .inl (nI k))], [.inl (sp_plc g k)], h)) (P := True) rfl trivial ?_
    refine jt_iret jm_m29 20 rfl ?_
    have e : k = g 0 := by omega
    subst e
    exact ⟨rfl, rfl⟩
  · refine jt_go jm_m29 8 6 (f' := (20, [(0, .inr (.inr (2, j, 0))), (1, .inl (sp_plc g k)), (2, .inl (nI k))], [.inl (h (2, j, 3) (nI k).toNatClampNeg), .inl (nI 1), .inl (sp_plc g k)], h)) (P := vp_in (nI k) 6 ∧ True) rfl ⟨(vp_in_nI (by omega) (by decide)), trivial⟩ ?_
    refine jt_ti (show (h (2, j, 3) (nI k).toNatClampNeg) = nI (g (38 + 5 * k)) from jf_at R (c := k) (nI_clamp (by omega)) (by omega)) ?_
    have bq2 := jw_at W (c := k) (by omega)
    refine jt_go jm_m29 14 3 (f' := (23, [(1, .inl ((sp_plc g k) ||| ((nI 1) <<< ((nI (g (38 + 5 * k))) &&& 31)))), (0, .inr (.inr (2, j, 0))), (2, .inl (nI k))], [], h)) (P := True) rfl trivial ?_
    refine jt_inc jm_m29 17 (c := k) (L' := [(2, .inl (nI (k + 1))), (1, .inl ((sp_plc g k) ||| ((nI 1) <<< ((nI (g (38 + 5 * k))) &&& 31)))), (0, .inr (.inr (2, j, 0)))]) rfl rfl rfl rfl ?_
    refine jt_go jm_m29 18 1 (f' := (4, [(2, .inl (nI (k + 1))), (1, .inl ((sp_plc g k) ||| ((nI 1) <<< ((nI (g (38 + 5 * k))) &&& 31)))), (0, .inr (.inr (2, j, 0)))], [], h)) (P := True) rfl trivial ?_
    refine jt_pick (L' := [(0, .inr (.inr (2, j, 0))), (1, .inl ((sp_plc g k) ||| ((nI 1) <<< ((nI (g (38 + 5 * k))) &&& 31)))), (2, .inl (nI (k + 1)))]) [2, 1, 0] rfl ?_
    exact nx c9)
set_option maxHeartbeats 4000000 in
set_option maxRecDepth 20000 in
theorem ta_plc {h : jm_M} {j : Nat} {g : Nat → Nat} (R : jf_rel h j g) (W : jw g)  : jt_Pu 29 [.inr (.inr (2, j, 0))] h (.inl (sp_plc g (g 0))) := by
  show jt_T 29 (0, [(0, .inr (.inr (2, j, 0)))], [], h) _
  refine jt_go jm_m29 0 4 (f' := (4, [(2, .inl (nI 0)), (1, .inl (nI 0)), (0, .inr (.inr (2, j, 0)))], [], h)) (P := True) rfl trivial ?_
  refine jt_pick (L' := [(0, .inr (.inr (2, j, 0))), (1, .inl (nI 0)), (2, .inl (nI 0))]) [2, 1, 0] rfl ?_
  exact ta_plc_l R W 0 (Nat.zero_le _)
