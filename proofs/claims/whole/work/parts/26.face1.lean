/-! THE FACE: hours on, the first at which something is so. -/
/-- the first of d numbers from k on with P -/
def sp_fi (P : Nat → Bool) : Nat → Nat → Option Nat
  | _, 0 => none
  | k, d + 1 => if P k = true then some k else sp_fi P (k + 1) d
theorem sp_fi_pos {P : Nat → Bool} {k n : Nat} (hk : k < n) (h : P k = true) : sp_fi P k (n - k) = some k := by
  obtain ⟨d, hd⟩ : ∃ d, n - k = d + 1 := ⟨n - k - 1, by omega⟩
  rw [hd]
  exact if_pos h
theorem sp_fi_neg {P : Nat → Bool} {k n : Nat} (hk : k < n) (h : ¬ P k = true) : sp_fi P k (n - k) = sp_fi P (k + 1) (n - (k + 1)) := by
  obtain ⟨d, hd⟩ : ∃ d, n - k = d + 1 := ⟨n - k - 1, by omega⟩
  rw [hd, show n - (k + 1) = d by omega]
  exact if_neg h
theorem sp_fi_some {P : Nat → Bool} : ∀ d k j, sp_fi P k d = some j → k ≤ j ∧ j < k + d ∧ P j = true ∧ ∀ i, k ≤ i → i < j → ¬ P i = true := by
  intro d
  induction d with
  | zero => intro k j h; cases h
  | succ d ih =>
    intro k j h
    unfold sp_fi at h
    split at h
    · rename_i q; cases h; exact ⟨Nat.le_refl _, by omega, q, fun i h1 h2 => absurd h1 (by omega)⟩
    · rename_i q
      obtain ⟨h1, h2, h3, h4⟩ := ih (k + 1) j h
      refine ⟨by omega, by omega, h3, fun i h5 h6 => ?_⟩
      by_cases e : i = k
      · subst e; exact q
      · exact h4 i (by omega) h6
theorem sp_fi_none {P : Nat → Bool} : ∀ d k, sp_fi P k d = none → ∀ i, k ≤ i → i < k + d → ¬ P i = true := by
  intro d
  induction d with
  | zero => intro k _ i h1 h2; omega
  | succ d ih =>
    intro k h i h1 h2
    unfold sp_fi at h
    split at h
    · cases h
    · rename_i q
      by_cases e : i = k
      · subst e; exact q
      · exact ih (k + 1) h i (by omega) (by omega)
set_option maxHeartbeats 4000000 in
set_option maxRecDepth 20000 in
theorem ca_crosses_l {h : jm_M} {g : Nat → Nat} (W : jw g) {c : Nat} (hc : c < g 0) : ∀ k, k ≤ 99 → ∀ hm : jm_M, (jf_rel hm 1 (sp_it g k)) → (jf_fr 1 h hm) → jt_T 86 (26, [(0, .inr (.inr (0, 0, 0))), (1, .inl (nI c)), (2, .inl (nI (k + 1)))], [], hm) (fun u h' => u = some (.inl (jo ((sp_fi (fun k => decide (sp_set (sp_it g k) false / 2 ^ c % 2 = 1)) k (99 - k)).map (fun z => z + 1)))) ∧ jf_fr 1 h h') := jx_up (P := fun k => ∀ hm : jm_M, (jf_rel hm 1 (sp_it g k)) → (jf_fr 1 h hm) → jt_T 86 (26, [(0, .inr (.inr (0, 0, 0))), (1, .inl (nI c)), (2, .inl (nI (k + 1)))], [], hm) (fun u h' => u = some (.inl (jo ((sp_fi (fun k => decide (sp_set (sp_it g k) false / 2 ^ c % 2 = 1)) k (99 - k)).map (fun z => z + 1)))) ∧ jf_fr 1 h h')) (fun k hk nx hm Rm Fm => by
  have Wk := (jw_it W k).1
  have e0 := (jw_it W k).2.1
  have e1 := (jw_it W k).2.2
  have bn := jw_n W
  have bm := jw_m W
  refine jt_go jm_m86 14 2 (f' := (29, [(0, .inr (.inr (0, 0, 0))), (1, .inl (nI c)), (2, .inl (nI (k + 1)))], [.inl (nI 99), .inl (nI (k + 1))], hm)) (P := True) rfl trivial ?_
  refine jt_nicgt jm_m86 16 (a := k + 1) (b := 99) (by omega) (by omega) (tgt := 58) (nxt := 32) rfl rfl rfl (fun c29 => ?_) (fun c29 => ?_)
  · refine jt_go jm_m86 29 1 (f' := (60, [(0, .inr (.inr (0, 0, 0))), (1, .inl (nI c)), (2, .inl (nI (k + 1)))], [.inl ((-4))], hm)) (P := True) rfl trivial ?_
    refine jt_iret jm_m86 30 rfl ?_
    have e : k = 99 := by omega
    subst e
    exact ⟨rfl, Fm⟩
  · refine jt_go jm_m86 17 2 (f' := (36, [(0, .inr (.inr (0, 0, 0))), (1, .inl (nI c)), (2, .inl (nI (k + 1)))], [.inr (.inr (2, 1, 0))], hm)) (P := True) rfl trivial ?_
    refine jt_call jm_m86 19 (mi' := 18) (as := [.inr (.inr (2, 1, 0))]) (rest := []) (nxt := 39) rfl rfl jm_m18 rfl rfl (ta_hour Rm Wk) ?_
    rintro u h1 ⟨rfl, Rh1, Fh1, Ch1⟩
    show jt_T 86 (39, [(0, .inr (.inr (0, 0, 0))), (1, .inl (nI c)), (2, .inl (nI (k + 1)))], [], h1) _
    have Rh1 : jf_rel h1 1 (sp_it g (k + 1)) := Rh1
    have Wh1 := (jw_it W (k + 1)).1
    have uh1 := sp_set_lt Wk (kept := false)
    have Fh1 := jf_fr_tr Fm Fh1
    refine jt_go jm_m86 20 3 (f' := (44, [(0, .inr (.inr (0, 0, 0))), (1, .inl (nI c)), (2, .inl (nI (k + 1)))], [.inl (nI c), .inr (.inr (2, 1, 0))], h1)) (P := True) rfl trivial ?_
    refine jt_callp (w := .inl (jm_b ((sp_set (sp_it g k) false) / 2 ^ c % 2 = 1))) jm_m86 23 (mi' := 11) (as := [.inr (.inr (2, 1, 0)), .inl (nI c)]) (rest := []) (nxt := 47) rfl rfl jm_m11 rfl rfl (ta_hasCrossed uh1 Ch1 (by omega)) ?_
    refine jt_ifbeq jm_m86 24 (tgt := 52) (nxt := 50) rfl rfl rfl (fun c47 => ?_) (fun c47 => ?_)
    · refine jt_inc jm_m86 27 (c := k + 1) (L' := [(2, .inl (nI (k + 1 + 1))), (0, .inr (.inr (0, 0, 0))), (1, .inl (nI c))]) rfl rfl rfl rfl ?_
      refine jt_go jm_m86 28 1 (f' := (26, [(2, .inl (nI (k + 1 + 1))), (0, .inr (.inr (0, 0, 0))), (1, .inl (nI c))], [], h1)) (P := True) rfl trivial ?_
      refine jt_pick (L' := [(0, .inr (.inr (0, 0, 0))), (1, .inl (nI c)), (2, .inl (nI (k + 1 + 1)))]) [1, 2, 0] rfl ?_
      rw [sp_fi_neg (by omega) (fun z => c47 (of_decide_eq_true z))]
      exact nx (by omega) h1 Rh1 Fh1
    · refine jt_go jm_m86 25 1 (f' := (51, [(0, .inr (.inr (0, 0, 0))), (1, .inl (nI c)), (2, .inl (nI (k + 1)))], [.inl (nI (k + 1))], h1)) (P := True) rfl trivial ?_
      refine jt_iret jm_m86 26 rfl ?_
      rw [sp_fi_pos (by omega) (decide_eq_true c47)]
      exact ⟨rfl, Fh1⟩)
set_option maxHeartbeats 4000000 in
set_option maxRecDepth 20000 in
theorem cb_crosses_l {h : jm_M} {g : Nat → Nat} (W : jw g) {c : Nat} (hc : c < g 0) : ∀ k, k ≤ 99 → ∀ hm : jm_M, (jg_rel hm 1 (sp_it g k)) → (jg_fr 1 h hm) → jt_T 189 (23, [(0, .inr (.inr (4, 0, 0))), (1, .inl (nI c)), (2, .inl (nI (k + 1)))], [], hm) (fun u h' => u = some (.inl (jo ((sp_fi (fun k => decide (sp_set (sp_it g k) false / 2 ^ c % 2 = 1)) k (99 - k)).map (fun z => z + 1)))) ∧ jg_fr 1 h h') := jx_up (P := fun k => ∀ hm : jm_M, (jg_rel hm 1 (sp_it g k)) → (jg_fr 1 h hm) → jt_T 189 (23, [(0, .inr (.inr (4, 0, 0))), (1, .inl (nI c)), (2, .inl (nI (k + 1)))], [], hm) (fun u h' => u = some (.inl (jo ((sp_fi (fun k => decide (sp_set (sp_it g k) false / 2 ^ c % 2 = 1)) k (99 - k)).map (fun z => z + 1)))) ∧ jg_fr 1 h h')) (fun k hk nx hm Rm Fm => by
  have Wk := (jw_it W k).1
  have e0 := (jw_it W k).2.1
  have e1 := (jw_it W k).2.2
  have bn := jw_n W
  have bm := jw_m W
  refine jt_go jm_m189 13 2 (f' := (26, [(0, .inr (.inr (4, 0, 0))), (1, .inl (nI c)), (2, .inl (nI (k + 1)))], [.inl (nI 99), .inl (nI (k + 1))], hm)) (P := True) rfl trivial ?_
  refine jt_nicgt jm_m189 15 (a := k + 1) (b := 99) (by omega) (by omega) (tgt := 52) (nxt := 29) rfl rfl rfl (fun c26 => ?_) (fun c26 => ?_)
  · refine jt_go jm_m189 27 1 (f' := (54, [(0, .inr (.inr (4, 0, 0))), (1, .inl (nI c)), (2, .inl (nI (k + 1)))], [.inl ((-4))], hm)) (P := True) rfl trivial ?_
    refine jt_iret jm_m189 28 rfl ?_
    have e : k = 99 := by omega
    subst e
    exact ⟨rfl, Fm⟩
  · refine jt_go jm_m189 16 3 (f' := (34, [(0, .inr (.inr (4, 0, 0))), (1, .inl (nI c)), (2, .inl (nI (k + 1)))], [.inl (nI 0), .inr (.inr (5, 1, 0))], hm)) (P := True) rfl trivial ?_
    refine jt_call jm_m189 19 (mi' := 163) (as := [.inr (.inr (5, 1, 0)), .inl (nI 0)]) (rest := []) (nxt := 37) rfl rfl jm_m163 rfl rfl (tb_hour0 Rm Wk) ?_
    rintro u h1 ⟨rfl, Rh1, Fh1⟩
    show jt_T 189 (37, [(0, .inr (.inr (4, 0, 0))), (1, .inl (nI c)), (2, .inl (nI (k + 1)))], [.inl (nI (sp_set (sp_it g k) false))], h1) _
    have Rh1 : jg_rel h1 1 (sp_it g (k + 1)) := Rh1
    have Wh1 := (jw_it W (k + 1)).1
    have uh1 := sp_set_lt Wk (kept := false)
    have Fh1 := jg_fr_tr Fm Fh1
    refine jt_go jm_m189 20 1 (f' := (38, [(0, .inr (.inr (4, 0, 0))), (1, .inl (nI c)), (2, .inl (nI (k + 1)))], [.inl (nI c), .inl (nI (sp_set (sp_it g k) false))], h1)) (P := True) rfl trivial ?_
    refine jt_callp (w := .inl (jm_b ((sp_set (sp_it g k) false) / 2 ^ c % 2 = 1))) jm_m189 21 (mi' := 152) (as := [.inl (nI (sp_set (sp_it g k) false)), .inl (nI c)]) (rest := []) (nxt := 41) rfl rfl jm_m152 rfl rfl (tb_has (by omega) (by omega)) ?_
    refine jt_ifbeq jm_m189 22 (tgt := 46) (nxt := 44) rfl rfl rfl (fun c41 => ?_) (fun c41 => ?_)
    · refine jt_inc jm_m189 25 (c := k + 1) (L' := [(2, .inl (nI (k + 1 + 1))), (0, .inr (.inr (4, 0, 0))), (1, .inl (nI c))]) rfl rfl rfl rfl ?_
      refine jt_go jm_m189 26 1 (f' := (23, [(2, .inl (nI (k + 1 + 1))), (0, .inr (.inr (4, 0, 0))), (1, .inl (nI c))], [], h1)) (P := True) rfl trivial ?_
      refine jt_pick (L' := [(0, .inr (.inr (4, 0, 0))), (1, .inl (nI c)), (2, .inl (nI (k + 1 + 1)))]) [1, 2, 0] rfl ?_
      rw [sp_fi_neg (by omega) (fun z => c41 (of_decide_eq_true z))]
      exact nx (by omega) h1 Rh1 Fh1
    · refine jt_go jm_m189 23 1 (f' := (45, [(0, .inr (.inr (4, 0, 0))), (1, .inl (nI c)), (2, .inl (nI (k + 1)))], [.inl (nI (k + 1))], h1)) (P := True) rfl trivial ?_
      refine jt_iret jm_m189 24 rfl ?_
      rw [sp_fi_pos (by omega) (decide_eq_true c41)]
      exact ⟨rfl, Fh1⟩)
def zb_crosses (g : Nat → Nat) (c : Nat) : Int32 := jo ((sp_fi (fun k => decide (sp_set (sp_it g k) false / 2 ^ c % 2 = 1)) 0 99).map (fun z => z + 1))
def za_crosses (g : Nat → Nat) (x : Int32) : Int32 := if nI 0 ≤ x ∧ x < nI (g 0) then zb_crosses g x.toNatClampNeg else (-1)
set_option maxHeartbeats 4000000 in
set_option maxRecDepth 20000 in
theorem ca_crosses {h : jm_M} {g : Nat → Nat} (R : jf_rel h 0 g) (W : jw g) {x : Int32} : jt_T 86 (0, [(0, .inr (.inr (0, 0, 0))), (1, .inl (x))], [], h) (fun u h' => u = some (.inl (za_crosses g x)) ∧ jf_fr 1 h h') := by
  have bn := jw_n W
  have bm := jw_m W
  have bt := jw_t W
  refine jt_go jm_m86 0 3 (f' := (5, [(0, .inr (.inr (0, 0, 0))), (1, .inl (x))], [.inl (x), .inr (.inr (2, 0, 0))], h)) (P := True) rfl trivial ?_
  refine jt_callp (w := .inl (jm_b (nI 0 ≤ x ∧ x < nI (g 0)))) jm_m86 3 (mi' := 7) (as := [.inr (.inr (2, 0, 0)), .inl (x)]) (rest := []) (nxt := 8) rfl rfl jm_m7 rfl rfl (ta_hasCat R W) ?_
  refine jt_ifbne jm_m86 4 (tgt := 13) (nxt := 11) rfl rfl rfl (fun c8 => ?_) (fun c8 => ?_)
  · obtain ⟨c, hbc, rfl⟩ := jx_cat (by omega) c8
    refine jt_go jm_m86 7 4 (f' := (21, [(0, .inr (.inr (0, 0, 0))), (1, .inl (nI c))], [.inr (.inr (2, 0, 0)), .inr (.inr (2, 1, 0))], h)) (P := True) rfl trivial ?_
    refine jt_call jm_m86 11 (mi' := 6) (as := [.inr (.inr (2, 1, 0)), .inr (.inr (2, 0, 0))]) (rest := []) (nxt := 24) rfl rfl jm_m6 rfl rfl (ta_becomes R W (by decide)) ?_
    rintro u h1 ⟨rfl, Rh1, Fh1⟩
    show jt_T 86 (24, [(0, .inr (.inr (0, 0, 0))), (1, .inl (nI c))], [], h1) _
    have Wh1 : jw (g) := W
    have Zh1 := jf_mov0 R Fh1
    refine jt_go jm_m86 12 2 (f' := (26, [(2, .inl (nI 1)), (0, .inr (.inr (0, 0, 0))), (1, .inl (nI c))], [], h1)) (P := True) rfl trivial ?_
    refine jt_pick (L' := [(0, .inr (.inr (0, 0, 0))), (1, .inl (nI c)), (2, .inl (nI 1))]) [1, 2, 0] rfl ?_
    refine jt_mono (ca_crosses_l (h := h1) W hbc 0 (Nat.zero_le _) _ Rh1 jf_fr_rf) (fun u h2 z => ⟨z.1.trans (jt_li ?_), jf_fr_tr Fh1 z.2⟩)
    unfold za_crosses
    rw [if_pos c8, nI_clamp (n := c) (by omega)]
    unfold zb_crosses
    first | done | rfl
  · refine jt_go jm_m86 5 1 (f' := (12, [(0, .inr (.inr (0, 0, 0))), (1, .inl (x))], [.inl ((-1))], h)) (P := True) rfl trivial ?_
    refine jt_iret jm_m86 6 rfl ?_
    exact ⟨jt_li (if_neg (fun z => c8 z)).symm, jf_fr_rf⟩
set_option maxHeartbeats 4000000 in
set_option maxRecDepth 20000 in
theorem cb_crosses {h : jm_M} {g : Nat → Nat} (R : jg_rel h 0 g) (W : jw g) {x : Int32} : jt_T 189 (0, [(0, .inr (.inr (4, 0, 0))), (1, .inl (x))], [], h) (fun u h' => u = some (.inl (za_crosses g x)) ∧ jg_fr 1 h h') := by
  have bn := jw_n W
  have bm := jw_m W
  have bt := jw_t W
  refine jt_go jm_m189 0 2 (f' := (2, [(0, .inr (.inr (4, 0, 0))), (1, .inl (x))], [.inl (x), .inr (.inr (4, 0, 0))], h)) (P := True) rfl trivial ?_
  refine jt_callp (w := .inl (jm_b (nI 0 ≤ x ∧ x < nI (g 0)))) jm_m189 2 (mi' := 149) (as := [.inr (.inr (4, 0, 0)), .inl (x)]) (rest := []) (nxt := 5) rfl rfl jm_m149 rfl rfl (tb_isCat R W) ?_
  refine jt_ifbne jm_m189 3 (tgt := 10) (nxt := 8) rfl rfl rfl (fun c5 => ?_) (fun c5 => ?_)
  · obtain ⟨c, hbc, rfl⟩ := jx_cat (by omega) c5
    refine jt_go jm_m189 6 4 (f' := (18, [(0, .inr (.inr (4, 0, 0))), (1, .inl (nI c))], [.inr (.inr (5, 1, 0)), .inr (.inr (5, 0, 0))], h)) (P := True) rfl trivial ?_
    refine jt_call jm_m189 10 (mi' := 146) (as := [.inr (.inr (5, 0, 0)), .inr (.inr (5, 1, 0))]) (rest := []) (nxt := 21) rfl rfl jm_m146 rfl rfl (tb_copies R (by decide)) ?_
    rintro u h1 ⟨rfl, Rh1, Fh1⟩
    show jt_T 189 (21, [(0, .inr (.inr (4, 0, 0))), (1, .inl (nI c))], [], h1) _
    have Wh1 : jw (g) := W
    have Zh1 := jg_mov0 R Fh1
    refine jt_go jm_m189 11 2 (f' := (23, [(2, .inl (nI 1)), (0, .inr (.inr (4, 0, 0))), (1, .inl (nI c))], [], h1)) (P := True) rfl trivial ?_
    refine jt_pick (L' := [(0, .inr (.inr (4, 0, 0))), (1, .inl (nI c)), (2, .inl (nI 1))]) [1, 2, 0] rfl ?_
    refine jt_mono (cb_crosses_l (h := h1) W hbc 0 (Nat.zero_le _) _ Rh1 jg_fr_rf) (fun u h2 z => ⟨z.1.trans (jt_li ?_), jg_fr_tr Fh1 z.2⟩)
    unfold za_crosses
    rw [if_pos c5, nI_clamp (n := c) (by omega)]
    unfold zb_crosses
    first | done | rfl
  · refine jt_go jm_m189 4 1 (f' := (9, [(0, .inr (.inr (4, 0, 0))), (1, .inl (x))], [.inl ((-1))], h)) (P := True) rfl trivial ?_
    refine jt_iret jm_m189 5 rfl ?_
    exact ⟨jt_li (if_neg (fun z => c5 z)).symm, jg_fr_rf⟩
