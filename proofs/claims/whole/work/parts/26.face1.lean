/-! THE FACE: hours on, the first at which something is so. -/
/-- the first of d numbers from k on with P -/
def sp_fi (P : Nat → Bool) : Nat → Nat → Option Nat
  | _, 0 => none
  | k, d + 1 => if P k = true then some k else sp_fi P (k + 1) d
theorem sp_fi_pos {P : Nat → Bool} {k n : Nat} (hk : k < n) (h : P k = true) : sp_fi P k (n - k) = some k := by
  obtain ⟨d, hd⟩ : ∃ d, n - k = d + 1 := ⟨n - k - 1, by omega⟩
  rw [hd]
  exact if_pos h
theorem sp_fi_neg {P : Nat → Bool} {k n : Nat} (hk : k < n) (h : ¬ P k = true) : sp_fi P k (n - k) = sp_fi P (k + 1) (n - (k + 1)) := by
  obtain ⟨d, hd⟩ : ∃ d, n - k = d + 1 := ⟨n - k - 1, by omega⟩
  rw [hd, show n - (k + 1) = d by omega]
  exact if_neg h
theorem sp_fi_some {P : Nat → Bool} : ∀ d k j, sp_fi P k d = some j → k ≤ j ∧ j < k + d ∧ P j = true ∧ ∀ i, k ≤ i → i < j → ¬ P i = true := by
  intro d
  induction d with
  | zero => intro k j h; cases h
  | succ d ih =>
    intro k j h
    unfold sp_fi at h
    split at h
    · rename_i q; cases h; exact ⟨Nat.le_refl _, by omega, q, fun i h1 h2 => absurd h1 (by omega)⟩
    · rename_i q
      obtain ⟨h1, h2, h3, h4⟩ := ih (k + 1) j h
      refine ⟨by omega, by omega, h3, fun i h5 h6 => ?_⟩
      by_cases e : i = k
      · subst e; exact q
      · exact h4 i (by omega) h6
theorem sp_fi_none {P : Nat → Bool} : ∀ d k, sp_fi P k d = none → ∀ i, k ≤ i → i < k + d → ¬ P i = true := by
  intro d
  induction d with
  | zero => intro k _ i h1 h2; omega
  | succ d ih =>
    intro k h i h1 h2
    unfold sp_fi at h
    split at h
    · cases h
    · rename_i q
      by_cases e : i = k
      · subst e; exact q
      · exact ih (k + 1) h i (by omega) (by omega)
set_option maxHeartbeats 4000000 in
set_option maxRecDepth 20000 in
theorem ca_crosses_l {h : jm_M} {g : Nat → Nat} (W : jw g) {c : Nat} (hc : c < g 0) : ∀ k, k ≤ 99 → ∀ hm : jm_M, (jf_rel hm 1 (sp_it g k)) → (jf_fr 1 h hm) → jt_T 86 (26, [(0, .inr (.inr (0, 0, 0))), (1, .inl (nI c)), (2, .inl (nI (k + 1)))], [], hm) (fun u h' => u = some (.inl (jo ((sp_fi (fun k => decide (sp_set (sp_it g k) false / 2 ^ c % 2 = 1)) k (99 - k)).map (fun z => z + 1)))) ∧ jf_fr 1 h h') := jx_up (P := fun k => ∀ hm : jm_M, (jf_rel hm 1 (sp_it g k)) → (jf_fr 1 h hm) → jt_T 86 (26, [(0, .inr (.inr (0, 0, 0))), (1, .inl (nI c)), (2, .inl (nI (k + 1)))], [], hm) (fun u h' => u = some (.inl (jo ((sp_fi (fun k => decide (sp_set (sp_it g k) false / 2 ^ c % 2 = 1)) k (99 - k)).map (fun z => z + 1)))) ∧ jf_fr 1 h h')) (fun k hk nx hm Rm Fm => by
  have Wk := (jw_it W k).1
  have e0 := (jw_it W k).2.1
  have e1 := (jw_it W k).2.2
  have bn := jw_n W
  have bm := jw_m W
  refine jt_go jm_m86 14 2 (f' := (29, [(0, .inr (.inr (0, 0, 0))), (1, .inl (nI c)), (2, .inl (nI (k + 1)))], [.inl (nI 99), .inl (nI (k + 1))], hm)) (P := True) rfl trivial ?_
  refine jt_nicgt jm_m86 16 (a := k + 1) (b := 99) (by omega) (by omega) (tgt := 58) (nxt := 32) rfl rfl rfl (fun c29 => ?_) (fun c29 => ?_)
  · refine jt_go jm_m86 29 1 (f' := (60, [(0, .inr (.inr (0, 0, 0))), (1, .inl (nI c)), (2, .inl (nI (k + 1)))], [.inl ((-4))], hm)) (P := True) rfl trivial ?_
    refine jt_iret jm_m86 30 rfl ?_
    have e : k = 99 := by omega
    subst e
    exact ⟨rfl, Fm⟩
  · refine jt_go jm_m86 17 2 (f' := (36, [(0, .inr (.inr (0, 0, 0))), (1, .inl (nI c)), (2, .inl (nI (k + 1)))], [.inr (.inr (2, 1, 0))], hm)) (P := True) rfl trivial ?_
    refine jt_call jm_m86 19 (mi' := 18) (as := [.inr (.inr (2, 1, 0))]) (rest := []) (nxt := 39) rfl rfl jm_m18 rfl rfl (ta_hour Rm Wk) ?_
    rintro u h1 ⟨rfl, Rh1, Fh1, Ch1⟩
    show jt_T 86 (39, [(0, .inr (.inr (0, 0, 0))), (1, .inl (nI c)), (2, .inl (nI (k + 1)))], [], h1) _
    have Rh1 : jf_rel h1 1 (sp_it g (k + 1)) := Rh1
    have Wh1 := (jw_it W (k + 1)).1
    have uh1 := sp_set_lt Wk (kept := false)
    have Fh1 := jf_fr_tr Fm Fh1
    refine jt_go jm_m86 20 3 (f' := (44, [(0, .inr (.inr (0, 0, 0))), (1, .inl (nI c)), (2, .inl (nI (k + 1)))], [.inl (nI c), .inr (.inr (2, 1, 0))], h1)) (P := True) rfl trivial ?_
    refine jt_callp (w := .inl (jm_b ((sp_set (sp_it g k) false) / 2 ^ c % 2 = 1))) jm_m86 23 (mi' := 11) (as := [.inr (.inr (2, 1, 0)), .inl (nI c)]) (rest := []) (nxt := 47) rfl rfl jm_m11 rfl rfl (ta_hasCrossed uh1 Ch1 (by omega)) ?_
    refine jt_ifbeq jm_m86 24 (tgt := 52) (nxt := 50) rfl rfl rfl (fun c47 => ?_) (fun c47 => ?_)
    · refine jt_inc jm_m86 27 (c := k + 1) (L' := [(2, .inl (nI (k + 1 + 1))), (0, .inr (.inr (0, 0, 0))), (1, .inl (nI c))]) rfl rfl rfl rfl ?_
      refine jt_go jm_m86 28 1 (f' := (26, [(2, .inl (nI (k + 1 + 1))), (0, .inr (.inr (0, 0, 0))), (1, .inl (nI c))], [], h1)) (P := True) rfl trivial ?_
      refine jt_pick (L' := [(0, .inr (.inr (0, 0, 0))), (1, .inl (nI c)), (2, .inl (nI (k + 1 + 1)))]) [1, 2, 0] rfl ?_
      rw [sp_fi_neg (by omega) (fun z => c47 (of_decide_eq_true z))]
      exact nx (by omega) h1 Rh1 Fh1
    · refine jt_go jm_m86 25 1 (f' := (51, [(0, .inr (.inr (0, 0, 0))), (1, .inl (nI c)), (2, .inl (nI (k + 1)))], [.inl (nI (k + 1))], h1)) (P := True) rfl trivial ?_
      refine jt_iret jm_m86 26 rfl ?_
      rw [sp_fi_pos (by omega) (decide_eq_true c47)]
      exact ⟨rfl, Fh1⟩)
set_option maxHeartbeats 4000000 in
set_option maxRecDepth 20000 in
theorem cb_crosses_l {h : jm_M} {g : Nat → Nat} (W : jw g) {c : Nat} (hc : c < g 0) : ∀ k, k ≤ 99 → ∀ hm : jm_M, (jg_rel hm 1 (sp_it g k)) → (jg_fr 1 h hm) → jt_T 189 (23, [(0, .inr (.inr (4, 0, 0))), (1, .inl (nI c)), (2, .inl (nI (k + 1)))], [], hm) (fun u h' => u = some (.inl (jo ((sp_fi (fun k => decide (sp_set (sp_it g k) false / 2 ^ c % 2 = 1)) k (99 - k)).map (fun z => z + 1)))) ∧ jg_fr 1 h h') := jx_up (P := fun k => ∀ hm : jm_M, (jg_rel hm 1 (sp_it g k)) → (jg_fr 1 h hm) → jt_T 189 (23, [(0, .inr (.inr (4, 0, 0))), (1, .inl (nI c)), (2, .inl (nI (k + 1)))], [], hm) (fun u h' => u = some (.inl (jo ((sp_fi (fun k => decide (sp_set (sp_it g k) false / 2 ^ c % 2 = 1)) k (99 - k)).map (fun z => z + 1)))) ∧ jg_fr 1 h h')) (fun k hk nx hm Rm Fm => by
  have Wk := (jw_it W k).1
  have e0 := (jw_it W k).2.1
  have e1 := (jw_it W k).2.2
  have bn := jw_n W
  have bm := jw_m W
  refine jt_go jm_m189 13 2 (f' := (26, [(0, .inr (.inr (4, 0, 0))), (1, .inl (nI c)), (2, .inl (nI (k + 1)))], [.inl (nI 99), .inl (nI (k + 1))], hm)) (P := True) rfl trivial ?_
  refine jt_nicgt jm_m189 15 (a := k + 1) (b := 99) (by omega) (by omega) (tgt := 52) (nxt := 29) rfl rfl rfl (fun c26 => ?_) (fun c26 => ?_)
  · refine jt_go jm_m189 27 1 (f' := (54, [(0, .inr (.inr (4, 0, 0))), (1, .inl (nI c)), (2, .inl (nI (k + 1)))], [.inl ((-4))], hm)) (P := True) rfl trivial ?_
    refine jt_iret jm_m189 28 rfl ?_
    have e : k = 99 := by omega
    subst e
    exact ⟨rfl, Fm⟩
  · refine jt_go jm_m189 16 3 (f' := (34, [(0, .inr (.inr (4, 0, 0))), (1, .inl (nI c)), (2, .inl (nI (k + 1)))], [.inl (nI 0), .inr (.inr (5, 1, 0))], hm)) (P := True) rfl trivial ?_
    refine jt_call jm_m189 19 (mi' := 163) (as := [.inr (.inr (5, 1, 0)), .inl (nI 0)]) (rest := []) (nxt := 37) rfl rfl jm_m163 rfl rfl (tb_hour0 Rm Wk) ?_
    rintro u h1 ⟨rfl, Rh1, Fh1⟩
    show jt_T 189 (37, [(0, .inr (.inr (4, 0, 0))), (1, .inl (nI c)), (2, .inl (nI (k + 1)))], [.inl (nI (sp_set (sp_it g k) false))], h1) _
    have Rh1 : jg_rel h1 1 (sp_it g (k + 1)) := Rh1
    have Wh1 := (jw_it W (k + 1)).1
    have uh1 := sp_set_lt Wk (kept := false)
    have Fh1 := jg_fr_tr Fm Fh1
    refine jt_go jm_m189 20 1 (f' := (38, [(0, .inr (.inr (4, 0, 0))), (1, .inl (nI c)), (2, .inl (nI (k + 1)))], [.inl (nI c), .inl (nI (sp_set (sp_it g k) false))], h1)) (P := True) rfl trivial ?_
    refine jt_callp (w := .inl (jm_b ((sp_set (sp_it g k) false) / 2 ^ c % 2 = 1))) jm_m189 21 (mi' := 152) (as := [.inl (nI (sp_set (sp_it g k) false)), .inl (nI c)]) (rest := []) (nxt := 41) rfl rfl jm_m152 rfl rfl (tb_has (by omega) (by omega)) ?_
    refine jt_ifbeq jm_m189 22 (tgt := 46) (nxt := 44) rfl rfl rfl (fun c41 => ?_) (fun c41 => ?_)
    · refine jt_inc jm_m189 25 (c := k + 1) (L' := [(2, .inl (nI (k + 1 + 1))), (0, .inr (.inr (4, 0, 0))), (1, .inl (nI c))]) rfl rfl rfl rfl ?_
      refine jt_go jm_m189 26 1 (f' := (23, [(2, .inl (nI (k + 1 + 1))), (0, .inr (.inr (4, 0, 0))), (1, .inl (nI c))], [], h1)) (P := True) rfl trivial ?_
      refine jt_pick (L' := [(0, .inr (.inr (4, 0, 0))), (1, .inl (nI c)), (2, .inl (nI (k + 1 + 1)))]) [1, 2, 0] rfl ?_
      rw [sp_fi_neg (by omega) (fun z => c41 (of_decide_eq_true z))]
      exact nx (by omega) h1 Rh1 Fh1
    · refine jt_go jm_m189 23 1 (f' := (45, [(0, .inr (.inr (4, 0, 0))), (1, .inl (nI c)), (2, .inl (nI (k + 1)))], [.inl (nI (k + 1))], h1)) (P := True) rfl trivial ?_
      refine jt_iret jm_m189 24 rfl ?_
      rw [sp_fi_pos (by omega) (decide_eq_true c41)]
      exact ⟨rfl, Fh1⟩)
def zb_crosses (g : Nat → Nat) (c : Nat) : Int32 := jo ((sp_fi (fun k => decide (sp_set (sp_it g k) false / 2 ^ c % 2 = 1)) 0 99).map (fun z => z + 1))
def za_crosses (g : Nat → Nat) (x : Int32) : Int32 := if nI 0 ≤ x ∧ x < nI (g 0) then zb_crosses g x.toNatClampNeg else (-1)
set_option maxHeartbeats 4000000 in
set_option maxRecDepth 20000 in
theorem ca_crosses {h : jm_M} {g : Nat → Nat} (R : jf_rel h 0 g) (W : jw g) {x : Int32} : jt_T 86 (0, [(0, .inr (.inr (0, 0, 0))), (1, .inl (x))], [], h) (fun u h' => u = some (.inl (za_crosses g x)) ∧ jf_fr 1 h h') := by
  have bn := jw_n W
  have bm := jw_m W
  have bt := jw_t W
  refine jt_go jm_m86 0 3 (f' := (5, [(0, .inr (.inr (0, 0, 0))), (1, .inl (x))], [.inl (x), .inr (.inr (2, 0, 0))], h)) (P := True) rfl trivial ?_
  refine jt_callp (w := .inl (jm_b (nI 0 ≤ x ∧ x < nI (g 0)))) jm_m86 3 (mi' := 7) (as := [.inr (.inr (2, 0, 0)), .inl (x)]) (rest := []) (nxt := 8) rfl rfl jm_m7 rfl rfl (ta_hasCat R W) ?_
  refine jt_ifbne jm_m86 4 (tgt := 13) (nxt := 11) rfl rfl rfl (fun c8 => ?_) (fun c8 => ?_)
  · obtain ⟨c, hbc, rfl⟩ := jx_cat (by omega) c8
    refine jt_go jm_m86 7 4 (f' := (21, [(0, .inr (.inr (0, 0, 0))), (1, .inl (nI c))], [.inr (.inr (2, 0, 0)), .inr (.inr (2, 1, 0))], h)) (P := True) rfl trivial ?_
    refine jt_call jm_m86 11 (mi' := 6) (as := [.inr (.inr (2, 1, 0)), .inr (.inr (2, 0, 0))]) (rest := []) (nxt := 24) rfl rfl jm_m6 rfl rfl (ta_becomes R W (by decide)) ?_
    rintro u h1 ⟨rfl, Rh1, Fh1⟩
    show jt_T 86 (24, [(0, .inr (.inr (0, 0, 0))), (1, .inl (nI c))], [], h1) _
    have Rh1 : jf_rel h1 1 g := Rh1
    have Wh1 : jw (g) := W
    have Zh1 := jf_mov0 R Fh1
    refine jt_go jm_m86 12 2 (f' := (26, [(2, .inl (nI 1)), (0, .inr (.inr (0, 0, 0))), (1, .inl (nI c))], [], h1)) (P := True) rfl trivial ?_
    refine jt_pick (L' := [(0, .inr (.inr (0, 0, 0))), (1, .inl (nI c)), (2, .inl (nI 1))]) [1, 2, 0] rfl ?_
    refine jt_mono (ca_crosses_l (h := h1) W hbc 0 (Nat.zero_le _) _ Rh1 jf_fr_rf) (fun u h2 zz => ⟨zz.1.trans (jt_li ?_), jf_fr_tr Fh1 zz.2⟩)
    unfold za_crosses
    refine Eq.trans ?_ (if_pos c8).symm
    rw [nI_clamp (n := c) (by omega)]
    unfold zb_crosses
    first | done | rfl
  · refine jt_go jm_m86 5 1 (f' := (12, [(0, .inr (.inr (0, 0, 0))), (1, .inl (x))], [.inl ((-1))], h)) (P := True) rfl trivial ?_
    refine jt_iret jm_m86 6 rfl ?_
    exact ⟨jt_li (if_neg (fun z => c8 z)).symm, jf_fr_rf⟩
set_option maxHeartbeats 4000000 in
set_option maxRecDepth 20000 in
theorem cb_crosses {h : jm_M} {g : Nat → Nat} (R : jg_rel h 0 g) (W : jw g) {x : Int32} : jt_T 189 (0, [(0, .inr (.inr (4, 0, 0))), (1, .inl (x))], [], h) (fun u h' => u = some (.inl (za_crosses g x)) ∧ jg_fr 1 h h') := by
  have bn := jw_n W
  have bm := jw_m W
  have bt := jw_t W
  refine jt_go jm_m189 0 2 (f' := (2, [(0, .inr (.inr (4, 0, 0))), (1, .inl (x))], [.inl (x), .inr (.inr (4, 0, 0))], h)) (P := True) rfl trivial ?_
  refine jt_callp (w := .inl (jm_b (nI 0 ≤ x ∧ x < nI (g 0)))) jm_m189 2 (mi' := 149) (as := [.inr (.inr (4, 0, 0)), .inl (x)]) (rest := []) (nxt := 5) rfl rfl jm_m149 rfl rfl (tb_isCat R W) ?_
  refine jt_ifbne jm_m189 3 (tgt := 10) (nxt := 8) rfl rfl rfl (fun c5 => ?_) (fun c5 => ?_)
  · obtain ⟨c, hbc, rfl⟩ := jx_cat (by omega) c5
    refine jt_go jm_m189 6 4 (f' := (18, [(0, .inr (.inr (4, 0, 0))), (1, .inl (nI c))], [.inr (.inr (5, 1, 0)), .inr (.inr (5, 0, 0))], h)) (P := True) rfl trivial ?_
    refine jt_call jm_m189 10 (mi' := 146) (as := [.inr (.inr (5, 0, 0)), .inr (.inr (5, 1, 0))]) (rest := []) (nxt := 21) rfl rfl jm_m146 rfl rfl (tb_copies R (by decide)) ?_
    rintro u h1 ⟨rfl, Rh1, Fh1⟩
    show jt_T 189 (21, [(0, .inr (.inr (4, 0, 0))), (1, .inl (nI c))], [], h1) _
    have Rh1 : jg_rel h1 1 g := Rh1
    have Wh1 : jw (g) := W
    have Zh1 := jg_mov0 R Fh1
    refine jt_go jm_m189 11 2 (f' := (23, [(2, .inl (nI 1)), (0, .inr (.inr (4, 0, 0))), (1, .inl (nI c))], [], h1)) (P := True) rfl trivial ?_
    refine jt_pick (L' := [(0, .inr (.inr (4, 0, 0))), (1, .inl (nI c)), (2, .inl (nI 1))]) [1, 2, 0] rfl ?_
    refine jt_mono (cb_crosses_l (h := h1) W hbc 0 (Nat.zero_le _) _ Rh1 jg_fr_rf) (fun u h2 zz => ⟨zz.1.trans (jt_li ?_), jg_fr_tr Fh1 zz.2⟩)
    unfold za_crosses
    refine Eq.trans ?_ (if_pos c5).symm
    rw [nI_clamp (n := c) (by omega)]
    unfold zb_crosses
    first | done | rfl
  · refine jt_go jm_m189 4 1 (f' := (9, [(0, .inr (.inr (4, 0, 0))), (1, .inl (x))], [.inl ((-1))], h)) (P := True) rfl trivial ?_
    refine jt_iret jm_m189 5 rfl ?_
    exact ⟨jt_li (if_neg (fun z => c5 z)).symm, jg_fr_rf⟩
set_option maxHeartbeats 4000000 in
set_option maxRecDepth 20000 in
theorem ca_crossings_l {h : jm_M} {g : Nat → Nat} (W : jw g) {c n : Nat} (hc : c < g 0) (hn : n ≤ 99) : ∀ k, k ≤ n → ∀ hm : jm_M, (jf_rel hm 1 (sp_it g k)) → (jf_fr 1 h hm) → jt_T 87 (36, [(0, .inr (.inr (0, 0, 0))), (1, .inl (nI c)), (2, .inl (nI n)), (3, .inl (nI (sp_sum (fun k => if sp_set (sp_it g k) false / 2 ^ c % 2 = 1 then 1 else 0) k))), (4, .inl (nI (k + 1)))], [], hm) (fun u h' => u = some (.inl (nI (sp_sum (fun k => if sp_set (sp_it g k) false / 2 ^ c % 2 = 1 then 1 else 0) n))) ∧ jf_fr 1 h h') := jx_up (P := fun k => ∀ hm : jm_M, (jf_rel hm 1 (sp_it g k)) → (jf_fr 1 h hm) → jt_T 87 (36, [(0, .inr (.inr (0, 0, 0))), (1, .inl (nI c)), (2, .inl (nI n)), (3, .inl (nI (sp_sum (fun k => if sp_set (sp_it g k) false / 2 ^ c % 2 = 1 then 1 else 0) k))), (4, .inl (nI (k + 1)))], [], hm) (fun u h' => u = some (.inl (nI (sp_sum (fun k => if sp_set (sp_it g k) false / 2 ^ c % 2 = 1 then 1 else 0) n))) ∧ jf_fr 1 h h')) (fun k hk nx hm Rm Fm => by
  have Wk := (jw_it W k).1
  have e0 := (jw_it W k).2.1
  have e1 := (jw_it W k).2.2
  have bn := jw_n W
  have bm := jw_m W
  have bs : sp_sum (fun k => if sp_set (sp_it g k) false / 2 ^ c % 2 = 1 then 1 else 0) k ≤ 1 * k := sp_sum_le k (fun i _ => by split <;> omega)
  refine jt_go jm_m87 19 2 (f' := (39, [(0, .inr (.inr (0, 0, 0))), (1, .inl (nI c)), (2, .inl (nI n)), (3, .inl (nI (sp_sum (fun k => if sp_set (sp_it g k) false / 2 ^ c % 2 = 1 then 1 else 0) k))), (4, .inl (nI (k + 1)))], [.inl (nI n), .inl (nI (k + 1))], hm)) (P := True) rfl trivial ?_
  refine jt_nicgt jm_m87 21 (a := k + 1) (b := n) (by omega) (by omega) (tgt := 69) (nxt := 42) rfl rfl rfl (fun c39 => ?_) (fun c39 => ?_)
  · refine jt_go jm_m87 33 1 (f' := (70, [(0, .inr (.inr (0, 0, 0))), (1, .inl (nI c)), (2, .inl (nI n)), (3, .inl (nI (sp_sum (fun k => if sp_set (sp_it g k) false / 2 ^ c % 2 = 1 then 1 else 0) k))), (4, .inl (nI (k + 1)))], [.inl (nI (sp_sum (fun k => if sp_set (sp_it g k) false / 2 ^ c % 2 = 1 then 1 else 0) k))], hm)) (P := True) rfl trivial ?_
    refine jt_iret jm_m87 34 rfl ?_
    have e : k = n := by omega
    subst e
    exact ⟨rfl, Fm⟩
  · refine jt_go jm_m87 22 2 (f' := (46, [(0, .inr (.inr (0, 0, 0))), (1, .inl (nI c)), (2, .inl (nI n)), (3, .inl (nI (sp_sum (fun k => if sp_set (sp_it g k) false / 2 ^ c % 2 = 1 then 1 else 0) k))), (4, .inl (nI (k + 1)))], [.inr (.inr (2, 1, 0))], hm)) (P := True) rfl trivial ?_
    refine jt_call jm_m87 24 (mi' := 18) (as := [.inr (.inr (2, 1, 0))]) (rest := []) (nxt := 49) rfl rfl jm_m18 rfl rfl (ta_hour Rm Wk) ?_
    rintro u h1 ⟨rfl, Rh1, Fh1, Ch1⟩
    show jt_T 87 (49, [(0, .inr (.inr (0, 0, 0))), (1, .inl (nI c)), (2, .inl (nI n)), (3, .inl (nI (sp_sum (fun k => if sp_set (sp_it g k) false / 2 ^ c % 2 = 1 then 1 else 0) k))), (4, .inl (nI (k + 1)))], [], h1) _
    have Rh1 : jf_rel h1 1 (sp_it g (k + 1)) := Rh1
    have Wh1 := (jw_it W (k + 1)).1
    have uh1 := sp_set_lt Wk (kept := false)
    have Fh1 := jf_fr_tr Fm Fh1
    refine jt_go jm_m87 25 3 (f' := (54, [(0, .inr (.inr (0, 0, 0))), (1, .inl (nI c)), (2, .inl (nI n)), (3, .inl (nI (sp_sum (fun k => if sp_set (sp_it g k) false / 2 ^ c % 2 = 1 then 1 else 0) k))), (4, .inl (nI (k + 1)))], [.inl (nI c), .inr (.inr (2, 1, 0))], h1)) (P := True) rfl trivial ?_
    refine jt_callp (w := .inl (jm_b ((sp_set (sp_it g k) false) / 2 ^ c % 2 = 1))) jm_m87 28 (mi' := 11) (as := [.inr (.inr (2, 1, 0)), .inl (nI c)]) (rest := []) (nxt := 57) rfl rfl jm_m11 rfl rfl (ta_hasCrossed uh1 Ch1 (by omega)) ?_
    refine jt_ifbeq jm_m87 29 (tgt := 63) (nxt := 60) rfl rfl rfl (fun c57 => ?_) (fun c57 => ?_)
    · refine jt_inc jm_m87 31 (c := k + 1) (L' := [(4, .inl (nI (k + 1 + 1))), (0, .inr (.inr (0, 0, 0))), (1, .inl (nI c)), (2, .inl (nI n)), (3, .inl (nI (sp_sum (fun k => if sp_set (sp_it g k) false / 2 ^ c % 2 = 1 then 1 else 0) k)))]) rfl rfl rfl rfl ?_
      refine jt_go jm_m87 32 1 (f' := (36, [(4, .inl (nI (k + 1 + 1))), (0, .inr (.inr (0, 0, 0))), (1, .inl (nI c)), (2, .inl (nI n)), (3, .inl (nI (sp_sum (fun k => if sp_set (sp_it g k) false / 2 ^ c % 2 = 1 then 1 else 0) k)))], [], h1)) (P := True) rfl trivial ?_
      refine jt_pick (L' := [(0, .inr (.inr (0, 0, 0))), (1, .inl (nI c)), (2, .inl (nI n)), (3, .inl (nI (sp_sum (fun k => if sp_set (sp_it g k) false / 2 ^ c % 2 = 1 then 1 else 0) k))), (4, .inl (nI (k + 1 + 1)))]) [1, 2, 3, 4, 0] rfl ?_
      have e : sp_sum (fun k => if sp_set (sp_it g k) false / 2 ^ c % 2 = 1 then 1 else 0) (k + 1) = sp_sum (fun k => if sp_set (sp_it g k) false / 2 ^ c % 2 = 1 then 1 else 0) k := by show sp_sum (fun k => if sp_set (sp_it g k) false / 2 ^ c % 2 = 1 then 1 else 0) k + (if _ then _ else _) = _; rw [if_neg c57, Nat.add_zero]
      have q := nx (by omega) h1 Rh1 Fh1
      rw [e] at q
      exact q
    · refine jt_inc jm_m87 30 (c := sp_sum (fun k => if sp_set (sp_it g k) false / 2 ^ c % 2 = 1 then 1 else 0) k) (L' := [(3, .inl (nI (sp_sum (fun k => if sp_set (sp_it g k) false / 2 ^ c % 2 = 1 then 1 else 0) k + 1))), (0, .inr (.inr (0, 0, 0))), (1, .inl (nI c)), (2, .inl (nI n)), (4, .inl (nI (k + 1)))]) rfl rfl rfl rfl ?_
      refine jt_inc jm_m87 31 (c := k + 1) (L' := [(4, .inl (nI (k + 1 + 1))), (3, .inl (nI (sp_sum (fun k => if sp_set (sp_it g k) false / 2 ^ c % 2 = 1 then 1 else 0) k + 1))), (0, .inr (.inr (0, 0, 0))), (1, .inl (nI c)), (2, .inl (nI n))]) rfl rfl rfl rfl ?_
      refine jt_go jm_m87 32 1 (f' := (36, [(4, .inl (nI (k + 1 + 1))), (3, .inl (nI (sp_sum (fun k => if sp_set (sp_it g k) false / 2 ^ c % 2 = 1 then 1 else 0) k + 1))), (0, .inr (.inr (0, 0, 0))), (1, .inl (nI c)), (2, .inl (nI n))], [], h1)) (P := True) rfl trivial ?_
      refine jt_pick (L' := [(0, .inr (.inr (0, 0, 0))), (1, .inl (nI c)), (2, .inl (nI n)), (3, .inl (nI (sp_sum (fun k => if sp_set (sp_it g k) false / 2 ^ c % 2 = 1 then 1 else 0) k + 1))), (4, .inl (nI (k + 1 + 1)))]) [2, 3, 4, 1, 0] rfl ?_
      have e : sp_sum (fun k => if sp_set (sp_it g k) false / 2 ^ c % 2 = 1 then 1 else 0) (k + 1) = sp_sum (fun k => if sp_set (sp_it g k) false / 2 ^ c % 2 = 1 then 1 else 0) k + 1 := by show sp_sum (fun k => if sp_set (sp_it g k) false / 2 ^ c % 2 = 1 then 1 else 0) k + (if _ then _ else _) = _; rw [if_pos c57]
      have q := nx (by omega) h1 Rh1 Fh1
      rw [e] at q
      exact q)
set_option maxHeartbeats 4000000 in
set_option maxRecDepth 20000 in
theorem cb_crossings_l {h : jm_M} {g : Nat → Nat} (W : jw g) {c n : Nat} (hc : c < g 0) (hn : n ≤ 99) : ∀ k, k ≤ n → ∀ hm : jm_M, (jg_rel hm 1 (sp_it g k)) → (jg_fr 1 h hm) → jt_T 190 (36, [(0, .inr (.inr (4, 0, 0))), (1, .inl (nI c)), (2, .inl (nI n)), (3, .inl (nI (sp_sum (fun k => if sp_set (sp_it g k) false / 2 ^ c % 2 = 1 then 1 else 0) k))), (4, .inl (nI k))], [], hm) (fun u h' => u = some (.inl (nI (sp_sum (fun k => if sp_set (sp_it g k) false / 2 ^ c % 2 = 1 then 1 else 0) n))) ∧ jg_fr 1 h h') := jx_up (P := fun k => ∀ hm : jm_M, (jg_rel hm 1 (sp_it g k)) → (jg_fr 1 h hm) → jt_T 190 (36, [(0, .inr (.inr (4, 0, 0))), (1, .inl (nI c)), (2, .inl (nI n)), (3, .inl (nI (sp_sum (fun k => if sp_set (sp_it g k) false / 2 ^ c % 2 = 1 then 1 else 0) k))), (4, .inl (nI k))], [], hm) (fun u h' => u = some (.inl (nI (sp_sum (fun k => if sp_set (sp_it g k) false / 2 ^ c % 2 = 1 then 1 else 0) n))) ∧ jg_fr 1 h h')) (fun k hk nx hm Rm Fm => by
  have Wk := (jw_it W k).1
  have e0 := (jw_it W k).2.1
  have e1 := (jw_it W k).2.2
  have bn := jw_n W
  have bm := jw_m W
  have bs : sp_sum (fun k => if sp_set (sp_it g k) false / 2 ^ c % 2 = 1 then 1 else 0) k ≤ 1 * k := sp_sum_le k (fun i _ => by split <;> omega)
  refine jt_go jm_m190 20 2 (f' := (39, [(0, .inr (.inr (4, 0, 0))), (1, .inl (nI c)), (2, .inl (nI n)), (3, .inl (nI (sp_sum (fun k => if sp_set (sp_it g k) false / 2 ^ c % 2 = 1 then 1 else 0) k))), (4, .inl (nI k))], [.inl (nI n), .inl (nI k)], hm)) (P := True) rfl trivial ?_
  refine jt_nicge jm_m190 22 (a := k) (b := n) (by omega) (by omega) (tgt := 71) (nxt := 42) rfl rfl rfl (fun c39 => ?_) (fun c39 => ?_)
  · refine jt_go jm_m190 38 1 (f' := (72, [(0, .inr (.inr (4, 0, 0))), (1, .inl (nI c)), (2, .inl (nI n)), (3, .inl (nI (sp_sum (fun k => if sp_set (sp_it g k) false / 2 ^ c % 2 = 1 then 1 else 0) k))), (4, .inl (nI k))], [.inl (nI (sp_sum (fun k => if sp_set (sp_it g k) false / 2 ^ c % 2 = 1 then 1 else 0) k))], hm)) (P := True) rfl trivial ?_
    refine jt_iret jm_m190 39 rfl ?_
    have e : k = n := by omega
    subst e
    exact ⟨rfl, Fm⟩
  · refine jt_go jm_m190 23 4 (f' := (48, [(0, .inr (.inr (4, 0, 0))), (1, .inl (nI c)), (2, .inl (nI n)), (3, .inl (nI (sp_sum (fun k => if sp_set (sp_it g k) false / 2 ^ c % 2 = 1 then 1 else 0) k))), (4, .inl (nI k))], [.inl (nI 0), .inr (.inr (5, 1, 0)), .inl (nI (sp_sum (fun k => if sp_set (sp_it g k) false / 2 ^ c % 2 = 1 then 1 else 0) k))], hm)) (P := True) rfl trivial ?_
    refine jt_call jm_m190 27 (mi' := 163) (as := [.inr (.inr (5, 1, 0)), .inl (nI 0)]) (rest := [.inl (nI (sp_sum (fun k => if sp_set (sp_it g k) false / 2 ^ c % 2 = 1 then 1 else 0) k))]) (nxt := 51) rfl rfl jm_m163 rfl rfl (tb_hour0 Rm Wk) ?_
    rintro u h1 ⟨rfl, Rh1, Fh1⟩
    show jt_T 190 (51, [(0, .inr (.inr (4, 0, 0))), (1, .inl (nI c)), (2, .inl (nI n)), (3, .inl (nI (sp_sum (fun k => if sp_set (sp_it g k) false / 2 ^ c % 2 = 1 then 1 else 0) k))), (4, .inl (nI k))], [.inl (nI (sp_set (sp_it g k) false)), .inl (nI (sp_sum (fun k => if sp_set (sp_it g k) false / 2 ^ c % 2 = 1 then 1 else 0) k))], h1) _
    have Rh1 : jg_rel h1 1 (sp_it g (k + 1)) := Rh1
    have Wh1 := (jw_it W (k + 1)).1
    have uh1 := sp_set_lt Wk (kept := false)
    have Fh1 := jg_fr_tr Fm Fh1
    refine jt_go jm_m190 28 1 (f' := (52, [(0, .inr (.inr (4, 0, 0))), (1, .inl (nI c)), (2, .inl (nI n)), (3, .inl (nI (sp_sum (fun k => if sp_set (sp_it g k) false / 2 ^ c % 2 = 1 then 1 else 0) k))), (4, .inl (nI k))], [.inl (nI c), .inl (nI (sp_set (sp_it g k) false)), .inl (nI (sp_sum (fun k => if sp_set (sp_it g k) false / 2 ^ c % 2 = 1 then 1 else 0) k))], h1)) (P := True) rfl trivial ?_
    refine jt_callp (w := .inl (jm_b ((sp_set (sp_it g k) false) / 2 ^ c % 2 = 1))) jm_m190 29 (mi' := 152) (as := [.inl (nI (sp_set (sp_it g k) false)), .inl (nI c)]) (rest := [.inl (nI (sp_sum (fun k => if sp_set (sp_it g k) false / 2 ^ c % 2 = 1 then 1 else 0) k))]) (nxt := 55) rfl rfl jm_m152 rfl rfl (tb_has (by omega) (by omega)) ?_
    refine jt_ifbeq jm_m190 30 (tgt := 62) (nxt := 58) rfl rfl rfl (fun c55 => ?_) (fun c55 => ?_)
    · refine jt_go jm_m190 33 2 (f' := (64, [(0, .inr (.inr (4, 0, 0))), (1, .inl (nI c)), (2, .inl (nI n)), (3, .inl (nI (sp_sum (fun k => if sp_set (sp_it g k) false / 2 ^ c % 2 = 1 then 1 else 0) k))), (4, .inl (nI k))], [.inl ((nI (sp_sum (fun k => if sp_set (sp_it g k) false / 2 ^ c % 2 = 1 then 1 else 0) k)) + (nI 0))], h1)) (P := True) rfl trivial ?_
      refine jt_ti (show ((nI (sp_sum (fun k => if sp_set (sp_it g k) false / 2 ^ c % 2 = 1 then 1 else 0) k)) + (nI 0)) = nI (sp_sum (fun k => if sp_set (sp_it g k) false / 2 ^ c % 2 = 1 then 1 else 0) k) from Int32.add_zero _) ?_
      refine jt_go jm_m190 35 1 (f' := (65, [(3, .inl (nI (sp_sum (fun k => if sp_set (sp_it g k) false / 2 ^ c % 2 = 1 then 1 else 0) k))), (0, .inr (.inr (4, 0, 0))), (1, .inl (nI c)), (2, .inl (nI n)), (4, .inl (nI k))], [], h1)) (P := True) rfl trivial ?_
      refine jt_inc jm_m190 36 (c := k) (L' := [(4, .inl (nI (k + 1))), (3, .inl (nI (sp_sum (fun k => if sp_set (sp_it g k) false / 2 ^ c % 2 = 1 then 1 else 0) k))), (0, .inr (.inr (4, 0, 0))), (1, .inl (nI c)), (2, .inl (nI n))]) rfl rfl rfl rfl ?_
      refine jt_go jm_m190 37 1 (f' := (36, [(4, .inl (nI (k + 1))), (3, .inl (nI (sp_sum (fun k => if sp_set (sp_it g k) false / 2 ^ c % 2 = 1 then 1 else 0) k))), (0, .inr (.inr (4, 0, 0))), (1, .inl (nI c)), (2, .inl (nI n))], [], h1)) (P := True) rfl trivial ?_
      refine jt_pick (L' := [(0, .inr (.inr (4, 0, 0))), (1, .inl (nI c)), (2, .inl (nI n)), (3, .inl (nI (sp_sum (fun k => if sp_set (sp_it g k) false / 2 ^ c % 2 = 1 then 1 else 0) k))), (4, .inl (nI (k + 1)))]) [2, 3, 4, 1, 0] rfl ?_
      have e : sp_sum (fun k => if sp_set (sp_it g k) false / 2 ^ c % 2 = 1 then 1 else 0) (k + 1) = sp_sum (fun k => if sp_set (sp_it g k) false / 2 ^ c % 2 = 1 then 1 else 0) k := by show sp_sum (fun k => if sp_set (sp_it g k) false / 2 ^ c % 2 = 1 then 1 else 0) k + (if _ then _ else _) = _; rw [if_neg c55, Nat.add_zero]
      have q := nx (by omega) h1 Rh1 Fh1
      rw [e] at q
      exact q
    · refine jt_go jm_m190 31 2 (f' := (63, [(0, .inr (.inr (4, 0, 0))), (1, .inl (nI c)), (2, .inl (nI n)), (3, .inl (nI (sp_sum (fun k => if sp_set (sp_it g k) false / 2 ^ c % 2 = 1 then 1 else 0) k))), (4, .inl (nI k))], [.inl (nI 1), .inl (nI (sp_sum (fun k => if sp_set (sp_it g k) false / 2 ^ c % 2 = 1 then 1 else 0) k))], h1)) (P := True) rfl trivial ?_
      refine jt_go jm_m190 34 1 (f' := (64, [(0, .inr (.inr (4, 0, 0))), (1, .inl (nI c)), (2, .inl (nI n)), (3, .inl (nI (sp_sum (fun k => if sp_set (sp_it g k) false / 2 ^ c % 2 = 1 then 1 else 0) k))), (4, .inl (nI k))], [.inl ((nI (sp_sum (fun k => if sp_set (sp_it g k) false / 2 ^ c % 2 = 1 then 1 else 0) k)) + (nI 1))], h1)) (P := True) rfl trivial ?_
      refine jt_ti (show ((nI (sp_sum (fun k => if sp_set (sp_it g k) false / 2 ^ c % 2 = 1 then 1 else 0) k)) + (nI 1)) = nI (sp_sum (fun k => if sp_set (sp_it g k) false / 2 ^ c % 2 = 1 then 1 else 0) k + 1) from nI_add _ _) ?_
      refine jt_go jm_m190 35 1 (f' := (65, [(3, .inl (nI (sp_sum (fun k => if sp_set (sp_it g k) false / 2 ^ c % 2 = 1 then 1 else 0) k + 1))), (0, .inr (.inr (4, 0, 0))), (1, .inl (nI c)), (2, .inl (nI n)), (4, .inl (nI k))], [], h1)) (P := True) rfl trivial ?_
      refine jt_inc jm_m190 36 (c := k) (L' := [(4, .inl (nI (k + 1))), (3, .inl (nI (sp_sum (fun k => if sp_set (sp_it g k) false / 2 ^ c % 2 = 1 then 1 else 0) k + 1))), (0, .inr (.inr (4, 0, 0))), (1, .inl (nI c)), (2, .inl (nI n))]) rfl rfl rfl rfl ?_
      refine jt_go jm_m190 37 1 (f' := (36, [(4, .inl (nI (k + 1))), (3, .inl (nI (sp_sum (fun k => if sp_set (sp_it g k) false / 2 ^ c % 2 = 1 then 1 else 0) k + 1))), (0, .inr (.inr (4, 0, 0))), (1, .inl (nI c)), (2, .inl (nI n))], [], h1)) (P := True) rfl trivial ?_
      refine jt_pick (L' := [(0, .inr (.inr (4, 0, 0))), (1, .inl (nI c)), (2, .inl (nI n)), (3, .inl (nI (sp_sum (fun k => if sp_set (sp_it g k) false / 2 ^ c % 2 = 1 then 1 else 0) k + 1))), (4, .inl (nI (k + 1)))]) [2, 3, 4, 1, 0] rfl ?_
      have e : sp_sum (fun k => if sp_set (sp_it g k) false / 2 ^ c % 2 = 1 then 1 else 0) (k + 1) = sp_sum (fun k => if sp_set (sp_it g k) false / 2 ^ c % 2 = 1 then 1 else 0) k + 1 := by show sp_sum (fun k => if sp_set (sp_it g k) false / 2 ^ c % 2 = 1 then 1 else 0) k + (if _ then _ else _) = _; rw [if_pos c55]
      have q := nx (by omega) h1 Rh1 Fh1
      rw [e] at q
      exact q)
def zb_crossings (g : Nat → Nat) (c n : Nat) : Int32 := nI (sp_sum (fun k => if sp_set (sp_it g k) false / 2 ^ c % 2 = 1 then 1 else 0) n)
def za_crossings (g : Nat → Nat) (x y : Int32) : Int32 := if (nI 0 ≤ x ∧ x < nI (g 0)) ∧ (nI 0 ≤ y ∧ y ≤ nI 99) then zb_crossings g x.toNatClampNeg y.toNatClampNeg else (-1)
set_option maxHeartbeats 4000000 in
set_option maxRecDepth 20000 in
theorem ca_crossings {h : jm_M} {g : Nat → Nat} (R : jf_rel h 0 g) (W : jw g) {x y : Int32} : jt_T 87 (0, [(0, .inr (.inr (0, 0, 0))), (1, .inl (x)), (2, .inl (y))], [], h) (fun u h' => u = some (.inl (za_crossings g x y)) ∧ jf_fr 1 h h') := by
  have bn := jw_n W
  have bm := jw_m W
  have bt := jw_t W
  refine jt_go jm_m87 0 3 (f' := (5, [(0, .inr (.inr (0, 0, 0))), (1, .inl (x)), (2, .inl (y))], [.inl (x), .inr (.inr (2, 0, 0))], h)) (P := True) rfl trivial ?_
  refine jt_callp (w := .inl (jm_b (nI 0 ≤ x ∧ x < nI (g 0)))) jm_m87 3 (mi' := 7) (as := [.inr (.inr (2, 0, 0)), .inl (x)]) (rest := []) (nxt := 8) rfl rfl jm_m7 rfl rfl (ta_hasCat R W) ?_
  refine jt_ifbeq jm_m87 4 (tgt := 18) (nxt := 11) rfl rfl rfl (fun c8 => ?_) (fun c8 => ?_)
  · refine jt_go jm_m87 8 1 (f' := (19, [(0, .inr (.inr (0, 0, 0))), (1, .inl (x)), (2, .inl (y))], [.inl ((-1))], h)) (P := True) rfl trivial ?_
    refine jt_iret jm_m87 9 rfl ?_
    exact ⟨jt_li (if_neg (fun z => c8 z.1)).symm, jf_fr_rf⟩
  · obtain ⟨c, hbc, rfl⟩ := jx_cat (by omega) c8
    refine jt_go jm_m87 5 1 (f' := (12, [(0, .inr (.inr (0, 0, 0))), (1, .inl (nI c)), (2, .inl (y))], [.inl (y)], h)) (P := True) rfl trivial ?_
    refine jt_callp (w := .inl (jm_b (nI 0 ≤ y ∧ y ≤ nI 99))) jm_m87 6 (mi' := 141) (as := [.inl (y)]) (rest := []) (nxt := 15) rfl rfl jm_m141 rfl rfl (ta_ahead) ?_
    refine jt_ifbne jm_m87 7 (tgt := 20) (nxt := 18) rfl rfl rfl (fun c15 => ?_) (fun c15 => ?_)
    · obtain ⟨n, hbn, rfl⟩ := jx_win (by decide) c15
      refine jt_go jm_m87 10 4 (f' := (28, [(0, .inr (.inr (0, 0, 0))), (1, .inl (nI c)), (2, .inl (nI n))], [.inr (.inr (2, 0, 0)), .inr (.inr (2, 1, 0))], h)) (P := True) rfl trivial ?_
      refine jt_call jm_m87 14 (mi' := 6) (as := [.inr (.inr (2, 1, 0)), .inr (.inr (2, 0, 0))]) (rest := []) (nxt := 31) rfl rfl jm_m6 rfl rfl (ta_becomes R W (by decide)) ?_
      rintro u h1 ⟨rfl, Rh1, Fh1⟩
      show jt_T 87 (31, [(0, .inr (.inr (0, 0, 0))), (1, .inl (nI c)), (2, .inl (nI n))], [], h1) _
      have Rh1 : jf_rel h1 1 g := Rh1
      have Wh1 : jw (g) := W
      have Zh1 := jf_mov0 R Fh1
      refine jt_go jm_m87 15 4 (f' := (36, [(4, .inl (nI 1)), (3, .inl (nI 0)), (0, .inr (.inr (0, 0, 0))), (1, .inl (nI c)), (2, .inl (nI n))], [], h1)) (P := True) rfl trivial ?_
      refine jt_pick (L' := [(0, .inr (.inr (0, 0, 0))), (1, .inl (nI c)), (2, .inl (nI n)), (3, .inl (nI 0)), (4, .inl (nI 1))]) [2, 3, 4, 1, 0] rfl ?_
      refine jt_mono (ca_crossings_l (h := h1) W hbc hbn 0 (Nat.zero_le _) _ Rh1 jf_fr_rf) (fun u h2 zz => ⟨zz.1.trans (jt_li ?_), jf_fr_tr Fh1 zz.2⟩)
      unfold za_crossings
      refine Eq.trans ?_ (if_pos ⟨c8, c15⟩).symm
      rw [nI_clamp (n := c) (by omega), nI_clamp (n := n) (by omega)]
      unfold zb_crossings
      first | done | rfl
    · refine jt_go jm_m87 8 1 (f' := (19, [(0, .inr (.inr (0, 0, 0))), (1, .inl (nI c)), (2, .inl (y))], [.inl ((-1))], h)) (P := True) rfl trivial ?_
      refine jt_iret jm_m87 9 rfl ?_
      exact ⟨jt_li (if_neg (fun z => c15 z.2)).symm, jf_fr_rf⟩
set_option maxHeartbeats 4000000 in
set_option maxRecDepth 20000 in
theorem cb_crossings {h : jm_M} {g : Nat → Nat} (R : jg_rel h 0 g) (W : jw g) {x y : Int32} : jt_T 190 (0, [(0, .inr (.inr (4, 0, 0))), (1, .inl (x)), (2, .inl (y))], [], h) (fun u h' => u = some (.inl (za_crossings g x y)) ∧ jg_fr 1 h h') := by
  have bn := jw_n W
  have bm := jw_m W
  have bt := jw_t W
  refine jt_go jm_m190 0 2 (f' := (2, [(0, .inr (.inr (4, 0, 0))), (1, .inl (x)), (2, .inl (y))], [.inl (x), .inr (.inr (4, 0, 0))], h)) (P := True) rfl trivial ?_
  refine jt_callp (w := .inl (jm_b (nI 0 ≤ x ∧ x < nI (g 0)))) jm_m190 2 (mi' := 149) (as := [.inr (.inr (4, 0, 0)), .inl (x)]) (rest := []) (nxt := 5) rfl rfl jm_m149 rfl rfl (tb_isCat R W) ?_
  refine jt_ifbeq jm_m190 3 (tgt := 18) (nxt := 8) rfl rfl rfl (fun c5 => ?_) (fun c5 => ?_)
  · refine jt_go jm_m190 9 1 (f' := (19, [(0, .inr (.inr (4, 0, 0))), (1, .inl (x)), (2, .inl (y))], [.inl ((-1))], h)) (P := True) rfl trivial ?_
    refine jt_iret jm_m190 10 rfl ?_
    exact ⟨jt_li (if_neg (fun z => c5 z.1)).symm, jg_fr_rf⟩
  · obtain ⟨c, hbc, rfl⟩ := jx_cat (by omega) c5
    refine jt_go jm_m190 4 3 (f' := (12, [(0, .inr (.inr (4, 0, 0))), (1, .inl (nI c)), (2, .inl (y))], [.inl (nI 99), .inl (nI 0), .inl (y)], h)) (P := True) rfl trivial ?_
    refine jt_callp (w := .inl (jm_b (nI 0 ≤ y ∧ y ≤ nI 99))) jm_m190 7 (mi' := 143) (as := [.inl (y), .inl (nI 0), .inl (nI 99)]) (rest := []) (nxt := 15) rfl rfl jm_m143 rfl rfl (tb_isIn) ?_
    refine jt_ifbne jm_m190 8 (tgt := 20) (nxt := 18) rfl rfl rfl (fun c15 => ?_) (fun c15 => ?_)
    · obtain ⟨n, hbn, rfl⟩ := jx_win (by decide) c15
      refine jt_go jm_m190 11 4 (f' := (28, [(0, .inr (.inr (4, 0, 0))), (1, .inl (nI c)), (2, .inl (nI n))], [.inr (.inr (5, 1, 0)), .inr (.inr (5, 0, 0))], h)) (P := True) rfl trivial ?_
      refine jt_call jm_m190 15 (mi' := 146) (as := [.inr (.inr (5, 0, 0)), .inr (.inr (5, 1, 0))]) (rest := []) (nxt := 31) rfl rfl jm_m146 rfl rfl (tb_copies R (by decide)) ?_
      rintro u h1 ⟨rfl, Rh1, Fh1⟩
      show jt_T 190 (31, [(0, .inr (.inr (4, 0, 0))), (1, .inl (nI c)), (2, .inl (nI n))], [], h1) _
      have Rh1 : jg_rel h1 1 g := Rh1
      have Wh1 : jw (g) := W
      have Zh1 := jg_mov0 R Fh1
      refine jt_go jm_m190 16 4 (f' := (36, [(4, .inl (nI 0)), (3, .inl (nI 0)), (0, .inr (.inr (4, 0, 0))), (1, .inl (nI c)), (2, .inl (nI n))], [], h1)) (P := True) rfl trivial ?_
      refine jt_pick (L' := [(0, .inr (.inr (4, 0, 0))), (1, .inl (nI c)), (2, .inl (nI n)), (3, .inl (nI 0)), (4, .inl (nI 0))]) [2, 3, 4, 1, 0] rfl ?_
      refine jt_mono (cb_crossings_l (h := h1) W hbc hbn 0 (Nat.zero_le _) _ Rh1 jg_fr_rf) (fun u h2 zz => ⟨zz.1.trans (jt_li ?_), jg_fr_tr Fh1 zz.2⟩)
      unfold za_crossings
      refine Eq.trans ?_ (if_pos ⟨c5, c15⟩).symm
      rw [nI_clamp (n := c) (by omega), nI_clamp (n := n) (by omega)]
      unfold zb_crossings
      first | done | rfl
    · refine jt_go jm_m190 9 1 (f' := (19, [(0, .inr (.inr (4, 0, 0))), (1, .inl (nI c)), (2, .inl (y))], [.inl ((-1))], h)) (P := True) rfl trivial ?_
      refine jt_iret jm_m190 10 rfl ?_
      exact ⟨jt_li (if_neg (fun z => c15 z.2)).symm, jg_fr_rf⟩
def sp_till (g : Nat → Nat) (p : Nat) : Option Nat := sp_fi (fun k => decide (sp_it g k (67 + 2 * p) = 1)) 0 100
def sp_tat (g : Nat → Nat) (c q : Nat) : Option Nat := sp_fi (fun k => decide (sp_it g k (38 + 5 * c) = q)) 0 100
theorem sp_till_lt {g : Nat → Nat} {p w : Nat} (e : sp_till g p = some w) : w < 100 := by have := (sp_fi_some _ _ _ e).2.1; omega
theorem sp_tat_lt {g : Nat → Nat} {c p w : Nat} (e : sp_tat g c p = some w) : w < 100 := by have := (sp_fi_some _ _ _ e).2.1; omega
set_option maxHeartbeats 4000000 in
set_option maxRecDepth 20000 in
theorem ca_till_l {h : jm_M} {g : Nat → Nat} (W : jw g) {p : Nat} (hp : p < g 1) : ∀ k, k ≤ 100 → ∀ hm : jm_M, (jf_rel hm 1 (sp_it g k)) → (jf_fr 1 h hm) → jt_T 89 (2, [(0, .inr (.inr (0, 0, 0))), (1, .inl (nI p)), (2, .inl (nI k))], [], hm) (fun u h' => u = some (.inl (jo (sp_fi (fun k => decide (sp_it g k (67 + 2 * p) = 1)) k (100 - k)))) ∧ jf_fr 1 h h') := jx_up (P := fun k => ∀ hm : jm_M, (jf_rel hm 1 (sp_it g k)) → (jf_fr 1 h hm) → jt_T 89 (2, [(0, .inr (.inr (0, 0, 0))), (1, .inl (nI p)), (2, .inl (nI k))], [], hm) (fun u h' => u = some (.inl (jo (sp_fi (fun k => decide (sp_it g k (67 + 2 * p) = 1)) k (100 - k)))) ∧ jf_fr 1 h h')) (fun k hk nx hm Rm Fm => by
  have Wk := (jw_it W k).1
  have e0 := (jw_it W k).2.1
  have e1 := (jw_it W k).2.2
  have bn := jw_n W
  have bm := jw_m W
  refine jt_go jm_m89 2 2 (f' := (5, [(0, .inr (.inr (0, 0, 0))), (1, .inl (nI p)), (2, .inl (nI k))], [.inl (nI 99), .inl (nI k)], hm)) (P := True) rfl trivial ?_
  refine jt_nicgt jm_m89 4 (a := k) (b := 99) (by omega) (by omega) (tgt := 34) (nxt := 8) rfl rfl rfl (fun c5 => ?_) (fun c5 => ?_)
  · refine jt_go jm_m89 17 1 (f' := (36, [(0, .inr (.inr (0, 0, 0))), (1, .inl (nI p)), (2, .inl (nI k))], [.inl ((-4))], hm)) (P := True) rfl trivial ?_
    refine jt_iret jm_m89 18 rfl ?_
    have e : k = 100 := by omega
    subst e
    exact ⟨rfl, Fm⟩
  · refine jt_go jm_m89 5 3 (f' := (13, [(0, .inr (.inr (0, 0, 0))), (1, .inl (nI p)), (2, .inl (nI k))], [.inl (nI p), .inr (.inr (2, 1, 0))], hm)) (P := True) rfl trivial ?_
    refine jt_callp (w := .inl (jm_b ((sp_it g k) (67 + 2 * p) = 1))) jm_m89 8 (mi' := 10) (as := [.inr (.inr (2, 1, 0)), .inl (nI p)]) (rest := []) (nxt := 16) rfl rfl jm_m10 rfl rfl (ta_hasPassed Rm Wk (by omega)) ?_
    have bq1 := jw_pas Wk (c := p) (by omega)
    refine jt_ifbeq jm_m89 9 (tgt := 21) (nxt := 19) rfl rfl rfl (fun c16 => ?_) (fun c16 => ?_)
    · refine jt_go jm_m89 12 2 (f' := (25, [(0, .inr (.inr (0, 0, 0))), (1, .inl (nI p)), (2, .inl (nI k))], [.inr (.inr (2, 1, 0))], hm)) (P := True) rfl trivial ?_
      refine jt_call jm_m89 14 (mi' := 18) (as := [.inr (.inr (2, 1, 0))]) (rest := []) (nxt := 28) rfl rfl jm_m18 rfl rfl (ta_hour Rm Wk) ?_
      rintro u h1 ⟨rfl, Rh1, Fh1, Ch1⟩
      show jt_T 89 (28, [(0, .inr (.inr (0, 0, 0))), (1, .inl (nI p)), (2, .inl (nI k))], [], h1) _
      have Rh1 : jf_rel h1 1 (sp_it g (k + 1)) := Rh1
      have Wh1 := (jw_it W (k + 1)).1
      have uh1 := sp_set_lt Wk (kept := false)
      have Fh1 := jf_fr_tr Fm Fh1
      refine jt_inc jm_m89 15 (c := k) (L' := [(2, .inl (nI (k + 1))), (0, .inr (.inr (0, 0, 0))), (1, .inl (nI p))]) rfl rfl rfl rfl ?_
      refine jt_go jm_m89 16 1 (f' := (2, [(2, .inl (nI (k + 1))), (0, .inr (.inr (0, 0, 0))), (1, .inl (nI p))], [], h1)) (P := True) rfl trivial ?_
      refine jt_pick (L' := [(0, .inr (.inr (0, 0, 0))), (1, .inl (nI p)), (2, .inl (nI (k + 1)))]) [1, 2, 0] rfl ?_
      rw [sp_fi_neg (by omega) (fun z => c16 (of_decide_eq_true z))]
      exact nx (by omega) h1 Rh1 Fh1
    · refine jt_go jm_m89 10 1 (f' := (20, [(0, .inr (.inr (0, 0, 0))), (1, .inl (nI p)), (2, .inl (nI k))], [.inl (nI k)], hm)) (P := True) rfl trivial ?_
      refine jt_iret jm_m89 11 rfl ?_
      rw [sp_fi_pos (by omega) (decide_eq_true c16)]
      exact ⟨rfl, Fm⟩)
set_option maxHeartbeats 4000000 in
set_option maxRecDepth 20000 in
theorem cb_till_l {h : jm_M} {g : Nat → Nat} (W : jw g) {p : Nat} (hp : p < g 1) : ∀ k, k ≤ 100 → ∀ hm : jm_M, (jg_rel hm 1 (sp_it g k)) → (jg_fr 1 h hm) → jt_T 191 (2, [(0, .inr (.inr (4, 0, 0))), (1, .inl (nI p)), (2, .inl (nI k))], [], hm) (fun u h' => u = some (.inl (jo (sp_fi (fun k => decide (sp_it g k (67 + 2 * p) = 1)) k (100 - k)))) ∧ jg_fr 1 h h') := jx_up (P := fun k => ∀ hm : jm_M, (jg_rel hm 1 (sp_it g k)) → (jg_fr 1 h hm) → jt_T 191 (2, [(0, .inr (.inr (4, 0, 0))), (1, .inl (nI p)), (2, .inl (nI k))], [], hm) (fun u h' => u = some (.inl (jo (sp_fi (fun k => decide (sp_it g k (67 + 2 * p) = 1)) k (100 - k)))) ∧ jg_fr 1 h h')) (fun k hk nx hm Rm Fm => by
  have Wk := (jw_it W k).1
  have e0 := (jw_it W k).2.1
  have e1 := (jw_it W k).2.2
  have bn := jw_n W
  have bm := jw_m W
  refine jt_go jm_m191 2 2 (f' := (5, [(0, .inr (.inr (4, 0, 0))), (1, .inl (nI p)), (2, .inl (nI k))], [.inl (nI 99), .inl (nI k)], hm)) (P := True) rfl trivial ?_
  refine jt_nicgt jm_m191 4 (a := k) (b := 99) (by omega) (by omega) (tgt := 39) (nxt := 8) rfl rfl rfl (fun c5 => ?_) (fun c5 => ?_)
  · refine jt_go jm_m191 22 1 (f' := (41, [(0, .inr (.inr (4, 0, 0))), (1, .inl (nI p)), (2, .inl (nI k))], [.inl ((-4))], hm)) (P := True) rfl trivial ?_
    refine jt_iret jm_m191 23 rfl ?_
    have e : k = 100 := by omega
    subst e
    exact ⟨rfl, Fm⟩
  · refine jt_go jm_m191 5 4 (f' := (14, [(0, .inr (.inr (4, 0, 0))), (1, .inl (nI p)), (2, .inl (nI k))], [.inl (nI 1), .inl (nI p), .inr (.inr (5, 1, 0))], hm)) (P := True) rfl trivial ?_
    refine jt_callp (w := .inl (nI (67 + 2 * p))) jm_m191 9 (mi' := 148) (as := [.inl (nI p), .inl (nI 1)]) (rest := [.inr (.inr (5, 1, 0))]) (nxt := 17) rfl rfl jm_m148 rfl rfl (tb_ofM (k := 67 + 2 * p) (by omega)) ?_
    refine jt_go jm_m191 10 1 (f' := (18, [(0, .inr (.inr (4, 0, 0))), (1, .inl (nI p)), (2, .inl (nI k))], [.inl (hm (5, 1, 0) (nI (67 + 2 * p)).toNatClampNeg)], hm)) (P := vp_in (nI (67 + 2 * p)) 78 ∧ True) rfl ⟨(vp_in_nI (by omega) (by decide)), trivial⟩ ?_
    refine jt_ti (show (hm (5, 1, 0) (nI (67 + 2 * p)).toNatClampNeg) = nI ((sp_it g k) (67 + 2 * p)) from jg_get Rm (k := 67 + 2 * p) (nI_clamp (by omega)) (by omega)) ?_
    have bq1 := jw_pas Wk (c := p) (by omega)
    refine jt_go jm_m191 11 1 (f' := (19, [(0, .inr (.inr (4, 0, 0))), (1, .inl (nI p)), (2, .inl (nI k))], [.inl (nI 1), .inl (nI ((sp_it g k) (67 + 2 * p)))], hm)) (P := True) rfl trivial ?_
    refine jt_nicne jm_m191 12 (a := (sp_it g k) (67 + 2 * p)) (b := 1) (by omega) (by omega) (tgt := 24) (nxt := 22) rfl rfl rfl (fun c19 => ?_) (fun c19 => ?_)
    · refine jt_go jm_m191 15 3 (f' := (29, [(0, .inr (.inr (4, 0, 0))), (1, .inl (nI p)), (2, .inl (nI k))], [.inl (nI 0), .inr (.inr (5, 1, 0))], hm)) (P := True) rfl trivial ?_
      refine jt_call jm_m191 18 (mi' := 163) (as := [.inr (.inr (5, 1, 0)), .inl (nI 0)]) (rest := []) (nxt := 32) rfl rfl jm_m163 rfl rfl (tb_hour0 Rm Wk) ?_
      rintro u h1 ⟨rfl, Rh1, Fh1⟩
      show jt_T 191 (32, [(0, .inr (.inr (4, 0, 0))), (1, .inl (nI p)), (2, .inl (nI k))], [.inl (nI (sp_set (sp_it g k) false))], h1) _
      have Rh1 : jg_rel h1 1 (sp_it g (k + 1)) := Rh1
      have Wh1 := (jw_it W (k + 1)).1
      have uh1 := sp_set_lt Wk (kept := false)
      have Fh1 := jg_fr_tr Fm Fh1
      refine jt_go jm_m191 19 1 (f' := (33, [(3, .inl (nI (sp_set (sp_it g k) false))), (0, .inr (.inr (4, 0, 0))), (1, .inl (nI p)), (2, .inl (nI k))], [], h1)) (P := True) rfl trivial ?_
      refine jt_inc jm_m191 20 (c := k) (L' := [(2, .inl (nI (k + 1))), (3, .inl (nI (sp_set (sp_it g k) false))), (0, .inr (.inr (4, 0, 0))), (1, .inl (nI p))]) rfl rfl rfl rfl ?_
      refine jt_go jm_m191 21 1 (f' := (2, [(2, .inl (nI (k + 1))), (3, .inl (nI (sp_set (sp_it g k) false))), (0, .inr (.inr (4, 0, 0))), (1, .inl (nI p))], [], h1)) (P := True) rfl trivial ?_
      refine jt_pick (L' := [(0, .inr (.inr (4, 0, 0))), (1, .inl (nI p)), (2, .inl (nI (k + 1)))]) [2, 3, 0] rfl ?_
      rw [sp_fi_neg (by omega) (fun z => c19 (of_decide_eq_true z))]
      exact nx (by omega) h1 Rh1 Fh1
    · refine jt_go jm_m191 13 1 (f' := (23, [(0, .inr (.inr (4, 0, 0))), (1, .inl (nI p)), (2, .inl (nI k))], [.inl (nI k)], hm)) (P := True) rfl trivial ?_
      refine jt_iret jm_m191 14 rfl ?_
      rw [sp_fi_pos (by omega) (decide_eq_true c19)]
      exact ⟨rfl, Fm⟩)
set_option maxHeartbeats 4000000 in
set_option maxRecDepth 20000 in
theorem ca_tat_l {h : jm_M} {g : Nat → Nat} (W : jw g) {c p : Nat} (hc : c < g 0) (hp : p < 16) : ∀ k, k ≤ 100 → ∀ hm : jm_M, (jf_rel hm 1 (sp_it g k)) → (jf_fr 1 h hm) → jt_T 95 (2, [(0, .inr (.inr (0, 0, 0))), (1, .inl (nI c)), (2, .inl (nI p)), (3, .inl (nI k))], [], hm) (fun u h' => u = some (.inl (jo (sp_fi (fun k => decide (sp_it g k (38 + 5 * c) = p)) k (100 - k)))) ∧ jf_fr 1 h h') := jx_up (P := fun k => ∀ hm : jm_M, (jf_rel hm 1 (sp_it g k)) → (jf_fr 1 h hm) → jt_T 95 (2, [(0, .inr (.inr (0, 0, 0))), (1, .inl (nI c)), (2, .inl (nI p)), (3, .inl (nI k))], [], hm) (fun u h' => u = some (.inl (jo (sp_fi (fun k => decide (sp_it g k (38 + 5 * c) = p)) k (100 - k)))) ∧ jf_fr 1 h h')) (fun k hk nx hm Rm Fm => by
  have Wk := (jw_it W k).1
  have e0 := (jw_it W k).2.1
  have e1 := (jw_it W k).2.2
  have bn := jw_n W
  have bm := jw_m W
  refine jt_go jm_m95 2 2 (f' := (5, [(0, .inr (.inr (0, 0, 0))), (1, .inl (nI c)), (2, .inl (nI p)), (3, .inl (nI k))], [.inl (nI 99), .inl (nI k)], hm)) (P := True) rfl trivial ?_
  refine jt_nicgt jm_m95 4 (a := k) (b := 99) (by omega) (by omega) (tgt := 36) (nxt := 8) rfl rfl rfl (fun c5 => ?_) (fun c5 => ?_)
  · refine jt_go jm_m95 19 1 (f' := (38, [(0, .inr (.inr (0, 0, 0))), (1, .inl (nI c)), (2, .inl (nI p)), (3, .inl (nI k))], [.inl ((-4))], hm)) (P := True) rfl trivial ?_
    refine jt_iret jm_m95 20 rfl ?_
    have e : k = 100 := by omega
    subst e
    exact ⟨rfl, Fm⟩
  · refine jt_go jm_m95 5 5 (f' := (17, [(0, .inr (.inr (0, 0, 0))), (1, .inl (nI c)), (2, .inl (nI p)), (3, .inl (nI k))], [.inl (hm (2, 1, 3) (nI c).toNatClampNeg)], hm)) (P := vp_in (nI c) 6 ∧ True) rfl ⟨(vp_in_nI (by omega) (by decide)), trivial⟩ ?_
    refine jt_ti (show (hm (2, 1, 3) (nI c).toNatClampNeg) = nI ((sp_it g k) (38 + 5 * c)) from jf_at Rm (c := c) (nI_clamp (by omega)) (by omega)) ?_
    have bq1 := jw_at Wk (c := c) (by omega)
    refine jt_go jm_m95 10 1 (f' := (18, [(0, .inr (.inr (0, 0, 0))), (1, .inl (nI c)), (2, .inl (nI p)), (3, .inl (nI k))], [.inl (nI p), .inl (nI ((sp_it g k) (38 + 5 * c)))], hm)) (P := True) rfl trivial ?_
    refine jt_nicne jm_m95 11 (a := (sp_it g k) (38 + 5 * c)) (b := p) (by omega) (by omega) (tgt := 23) (nxt := 21) rfl rfl rfl (fun c18 => ?_) (fun c18 => ?_)
    · refine jt_go jm_m95 14 2 (f' := (27, [(0, .inr (.inr (0, 0, 0))), (1, .inl (nI c)), (2, .inl (nI p)), (3, .inl (nI k))], [.inr (.inr (2, 1, 0))], hm)) (P := True) rfl trivial ?_
      refine jt_call jm_m95 16 (mi' := 18) (as := [.inr (.inr (2, 1, 0))]) (rest := []) (nxt := 30) rfl rfl jm_m18 rfl rfl (ta_hour Rm Wk) ?_
      rintro u h1 ⟨rfl, Rh1, Fh1, Ch1⟩
      show jt_T 95 (30, [(0, .inr (.inr (0, 0, 0))), (1, .inl (nI c)), (2, .inl (nI p)), (3, .inl (nI k))], [], h1) _
      have Rh1 : jf_rel h1 1 (sp_it g (k + 1)) := Rh1
      have Wh1 := (jw_it W (k + 1)).1
      have uh1 := sp_set_lt Wk (kept := false)
      have Fh1 := jf_fr_tr Fm Fh1
      refine jt_inc jm_m95 17 (c := k) (L' := [(3, .inl (nI (k + 1))), (0, .inr (.inr (0, 0, 0))), (1, .inl (nI c)), (2, .inl (nI p))]) rfl rfl rfl rfl ?_
      refine jt_go jm_m95 18 1 (f' := (2, [(3, .inl (nI (k + 1))), (0, .inr (.inr (0, 0, 0))), (1, .inl (nI c)), (2, .inl (nI p))], [], h1)) (P := True) rfl trivial ?_
      refine jt_pick (L' := [(0, .inr (.inr (0, 0, 0))), (1, .inl (nI c)), (2, .inl (nI p)), (3, .inl (nI (k + 1)))]) [1, 2, 3, 0] rfl ?_
      rw [sp_fi_neg (by omega) (fun z => c18 (of_decide_eq_true z))]
      exact nx (by omega) h1 Rh1 Fh1
    · refine jt_go jm_m95 12 1 (f' := (22, [(0, .inr (.inr (0, 0, 0))), (1, .inl (nI c)), (2, .inl (nI p)), (3, .inl (nI k))], [.inl (nI k)], hm)) (P := True) rfl trivial ?_
      refine jt_iret jm_m95 13 rfl ?_
      rw [sp_fi_pos (by omega) (decide_eq_true c18)]
      exact ⟨rfl, Fm⟩)
set_option maxHeartbeats 4000000 in
set_option maxRecDepth 20000 in
theorem cb_tat_l {h : jm_M} {g : Nat → Nat} (W : jw g) {c p : Nat} (hc : c < g 0) (hp : p < 16) : ∀ k, k ≤ 100 → ∀ hm : jm_M, (jg_rel hm 1 (sp_it g k)) → (jg_fr 1 h hm) → jt_T 199 (2, [(0, .inr (.inr (4, 0, 0))), (1, .inl (nI c)), (2, .inl (nI p)), (3, .inl (nI k))], [], hm) (fun u h' => u = some (.inl (jo (sp_fi (fun k => decide (sp_it g k (38 + 5 * c) = p)) k (100 - k)))) ∧ jg_fr 1 h h') := jx_up (P := fun k => ∀ hm : jm_M, (jg_rel hm 1 (sp_it g k)) → (jg_fr 1 h hm) → jt_T 199 (2, [(0, .inr (.inr (4, 0, 0))), (1, .inl (nI c)), (2, .inl (nI p)), (3, .inl (nI k))], [], hm) (fun u h' => u = some (.inl (jo (sp_fi (fun k => decide (sp_it g k (38 + 5 * c) = p)) k (100 - k)))) ∧ jg_fr 1 h h')) (fun k hk nx hm Rm Fm => by
  have Wk := (jw_it W k).1
  have e0 := (jw_it W k).2.1
  have e1 := (jw_it W k).2.2
  have bn := jw_n W
  have bm := jw_m W
  refine jt_go jm_m199 2 2 (f' := (5, [(0, .inr (.inr (4, 0, 0))), (1, .inl (nI c)), (2, .inl (nI p)), (3, .inl (nI k))], [.inl (nI 99), .inl (nI k)], hm)) (P := True) rfl trivial ?_
  refine jt_nicgt jm_m199 4 (a := k) (b := 99) (by omega) (by omega) (tgt := 40) (nxt := 8) rfl rfl rfl (fun c5 => ?_) (fun c5 => ?_)
  · refine jt_go jm_m199 22 1 (f' := (42, [(0, .inr (.inr (4, 0, 0))), (1, .inl (nI c)), (2, .inl (nI p)), (3, .inl (nI k))], [.inl ((-4))], hm)) (P := True) rfl trivial ?_
    refine jt_iret jm_m199 23 rfl ?_
    have e : k = 100 := by omega
    subst e
    exact ⟨rfl, Fm⟩
  · refine jt_go jm_m199 5 4 (f' := (14, [(0, .inr (.inr (4, 0, 0))), (1, .inl (nI c)), (2, .inl (nI p)), (3, .inl (nI k))], [.inl (nI 2), .inl (nI c), .inr (.inr (5, 1, 0))], hm)) (P := True) rfl trivial ?_
    refine jt_callp (w := .inl (nI (38 + 5 * c))) jm_m199 9 (mi' := 147) (as := [.inl (nI c), .inl (nI 2)]) (rest := [.inr (.inr (5, 1, 0))]) (nxt := 17) rfl rfl jm_m147 rfl rfl (tb_ofC (k := 38 + 5 * c) (by omega)) ?_
    refine jt_go jm_m199 10 1 (f' := (18, [(0, .inr (.inr (4, 0, 0))), (1, .inl (nI c)), (2, .inl (nI p)), (3, .inl (nI k))], [.inl (hm (5, 1, 0) (nI (38 + 5 * c)).toNatClampNeg)], hm)) (P := vp_in (nI (38 + 5 * c)) 78 ∧ True) rfl ⟨(vp_in_nI (by omega) (by decide)), trivial⟩ ?_
    refine jt_ti (show (hm (5, 1, 0) (nI (38 + 5 * c)).toNatClampNeg) = nI ((sp_it g k) (38 + 5 * c)) from jg_get Rm (k := 38 + 5 * c) (nI_clamp (by omega)) (by omega)) ?_
    have bq1 := jw_at Wk (c := c) (by omega)
    refine jt_go jm_m199 11 1 (f' := (19, [(0, .inr (.inr (4, 0, 0))), (1, .inl (nI c)), (2, .inl (nI p)), (3, .inl (nI k))], [.inl (nI p), .inl (nI ((sp_it g k) (38 + 5 * c)))], hm)) (P := True) rfl trivial ?_
    refine jt_nicne jm_m199 12 (a := (sp_it g k) (38 + 5 * c)) (b := p) (by omega) (by omega) (tgt := 24) (nxt := 22) rfl rfl rfl (fun c19 => ?_) (fun c19 => ?_)
    · refine jt_go jm_m199 15 3 (f' := (29, [(0, .inr (.inr (4, 0, 0))), (1, .inl (nI c)), (2, .inl (nI p)), (3, .inl (nI k))], [.inl (nI 0), .inr (.inr (5, 1, 0))], hm)) (P := True) rfl trivial ?_
      refine jt_call jm_m199 18 (mi' := 163) (as := [.inr (.inr (5, 1, 0)), .inl (nI 0)]) (rest := []) (nxt := 32) rfl rfl jm_m163 rfl rfl (tb_hour0 Rm Wk) ?_
      rintro u h1 ⟨rfl, Rh1, Fh1⟩
      show jt_T 199 (32, [(0, .inr (.inr (4, 0, 0))), (1, .inl (nI c)), (2, .inl (nI p)), (3, .inl (nI k))], [.inl (nI (sp_set (sp_it g k) false))], h1) _
      have Rh1 : jg_rel h1 1 (sp_it g (k + 1)) := Rh1
      have Wh1 := (jw_it W (k + 1)).1
      have uh1 := sp_set_lt Wk (kept := false)
      have Fh1 := jg_fr_tr Fm Fh1
      refine jt_go jm_m199 19 1 (f' := (34, [(4, .inl (nI (sp_set (sp_it g k) false))), (0, .inr (.inr (4, 0, 0))), (1, .inl (nI c)), (2, .inl (nI p)), (3, .inl (nI k))], [], h1)) (P := True) rfl trivial ?_
      refine jt_inc jm_m199 20 (c := k) (L' := [(3, .inl (nI (k + 1))), (4, .inl (nI (sp_set (sp_it g k) false))), (0, .inr (.inr (4, 0, 0))), (1, .inl (nI c)), (2, .inl (nI p))]) rfl rfl rfl rfl ?_
      refine jt_go jm_m199 21 1 (f' := (2, [(3, .inl (nI (k + 1))), (4, .inl (nI (sp_set (sp_it g k) false))), (0, .inr (.inr (4, 0, 0))), (1, .inl (nI c)), (2, .inl (nI p))], [], h1)) (P := True) rfl trivial ?_
      refine jt_pick (L' := [(0, .inr (.inr (4, 0, 0))), (1, .inl (nI c)), (2, .inl (nI p)), (3, .inl (nI (k + 1)))]) [2, 3, 4, 0] rfl ?_
      rw [sp_fi_neg (by omega) (fun z => c19 (of_decide_eq_true z))]
      exact nx (by omega) h1 Rh1 Fh1
    · refine jt_go jm_m199 13 1 (f' := (23, [(0, .inr (.inr (4, 0, 0))), (1, .inl (nI c)), (2, .inl (nI p)), (3, .inl (nI k))], [.inl (nI k)], hm)) (P := True) rfl trivial ?_
      refine jt_iret jm_m199 14 rfl ?_
      rw [sp_fi_pos (by omega) (decide_eq_true c19)]
      exact ⟨rfl, Fm⟩)
set_option maxHeartbeats 4000000 in
set_option maxRecDepth 20000 in
theorem ca_till {h : jm_M} {g : Nat → Nat} (R : jf_rel h 1 g) (W : jw g) {p : Nat} (hp : p < g 1) : jt_T 89 (0, [(0, .inr (.inr (0, 0, 0))), (1, .inl (nI p))], [], h) (fun u h' => u = some (.inl (jo (sp_till g p))) ∧ jf_fr 1 h h') := by
  refine jt_go jm_m89 0 2 (f' := (2, [(2, .inl (nI 0)), (0, .inr (.inr (0, 0, 0))), (1, .inl (nI p))], [], h)) (P := True) rfl trivial ?_
  refine jt_pick (L' := [(0, .inr (.inr (0, 0, 0))), (1, .inl (nI p)), (2, .inl (nI 0))]) [1, 2, 0] rfl ?_
  exact ca_till_l W hp 0 (Nat.zero_le _) _ R jf_fr_rf
set_option maxHeartbeats 4000000 in
set_option maxRecDepth 20000 in
theorem cb_till {h : jm_M} {g : Nat → Nat} (R : jg_rel h 1 g) (W : jw g) {p : Nat} (hp : p < g 1) : jt_T 191 (0, [(0, .inr (.inr (4, 0, 0))), (1, .inl (nI p))], [], h) (fun u h' => u = some (.inl (jo (sp_till g p))) ∧ jg_fr 1 h h') := by
  refine jt_go jm_m191 0 2 (f' := (2, [(2, .inl (nI 0)), (0, .inr (.inr (4, 0, 0))), (1, .inl (nI p))], [], h)) (P := True) rfl trivial ?_
  refine jt_pick (L' := [(0, .inr (.inr (4, 0, 0))), (1, .inl (nI p)), (2, .inl (nI 0))]) [1, 2, 0] rfl ?_
  exact cb_till_l W hp 0 (Nat.zero_le _) _ R jg_fr_rf
set_option maxHeartbeats 4000000 in
set_option maxRecDepth 20000 in
theorem ca_tat {h : jm_M} {g : Nat → Nat} (R : jf_rel h 1 g) (W : jw g) {c p : Nat} (hc : c < g 0) (hp : p < 16) : jt_T 95 (0, [(0, .inr (.inr (0, 0, 0))), (1, .inl (nI c)), (2, .inl (nI p))], [], h) (fun u h' => u = some (.inl (jo (sp_tat g c p))) ∧ jf_fr 1 h h') := by
  refine jt_go jm_m95 0 2 (f' := (2, [(3, .inl (nI 0)), (0, .inr (.inr (0, 0, 0))), (1, .inl (nI c)), (2, .inl (nI p))], [], h)) (P := True) rfl trivial ?_
  refine jt_pick (L' := [(0, .inr (.inr (0, 0, 0))), (1, .inl (nI c)), (2, .inl (nI p)), (3, .inl (nI 0))]) [1, 2, 3, 0] rfl ?_
  exact ca_tat_l W hc hp 0 (Nat.zero_le _) _ R jf_fr_rf
set_option maxHeartbeats 4000000 in
set_option maxRecDepth 20000 in
theorem cb_tat {h : jm_M} {g : Nat → Nat} (R : jg_rel h 1 g) (W : jw g) {c p : Nat} (hc : c < g 0) (hp : p < 16) : jt_T 199 (0, [(0, .inr (.inr (4, 0, 0))), (1, .inl (nI c)), (2, .inl (nI p))], [], h) (fun u h' => u = some (.inl (jo (sp_tat g c p))) ∧ jg_fr 1 h h') := by
  refine jt_go jm_m199 0 2 (f' := (2, [(3, .inl (nI 0)), (0, .inr (.inr (4, 0, 0))), (1, .inl (nI c)), (2, .inl (nI p))], [], h)) (P := True) rfl trivial ?_
  refine jt_pick (L' := [(0, .inr (.inr (4, 0, 0))), (1, .inl (nI c)), (2, .inl (nI p)), (3, .inl (nI 0))]) [1, 2, 3, 0] rfl ?_
  exact cb_tat_l W hc hp 0 (Nat.zero_le _) _ R jg_fr_rf
set_option maxHeartbeats 4000000 in
set_option maxRecDepth 20000 in
theorem cb_passesOf {h : jm_M} {g : Nat → Nat} (R : jg_rel h 0 g) (W : jw g) {p : Nat} (hp : p < g 1) : jt_T 192 (0, [(0, .inr (.inr (4, 0, 0))), (1, .inl (nI p))], [], h) (fun u h' => u = some (.inl (jo (sp_till g p))) ∧ jg_fr 1 h h') := by
  refine jt_go jm_m192 0 4 (f' := (8, [(0, .inr (.inr (4, 0, 0))), (1, .inl (nI p))], [.inr (.inr (5, 1, 0)), .inr (.inr (5, 0, 0))], h)) (P := True) rfl trivial ?_
  refine jt_call jm_m192 4 (mi' := 146) (as := [.inr (.inr (5, 0, 0)), .inr (.inr (5, 1, 0))]) (rest := []) (nxt := 11) rfl rfl jm_m146 rfl rfl (tb_copies R (by decide)) ?_
  rintro u h1 ⟨rfl, Rh1, Fh1⟩
  show jt_T 192 (11, [(0, .inr (.inr (4, 0, 0))), (1, .inl (nI p))], [], h1) _
  have Rh1 : jg_rel h1 1 g := Rh1
  have Wh1 : jw (g) := W
  have Zh1 := jg_mov0 R Fh1
  refine jt_go jm_m192 5 2 (f' := (13, [(0, .inr (.inr (4, 0, 0))), (1, .inl (nI p))], [.inl (nI p), .inr (.inr (4, 0, 0))], h1)) (P := True) rfl trivial ?_
  refine jt_call jm_m192 7 (mi' := 191) (as := [.inr (.inr (4, 0, 0)), .inl (nI p)]) (rest := []) (nxt := 16) rfl rfl jm_m191 rfl rfl (cb_till Rh1 Wh1 (by omega)) ?_
  rintro u h2 ⟨rfl, Fh2⟩
  show jt_T 192 (16, [(0, .inr (.inr (4, 0, 0))), (1, .inl (nI p))], [.inl (jo (sp_till g p))], h2) _
  have Zh2 := jg_mov0 Zh1 Fh2
  have Fh2 := jg_fr_tr Fh1 Fh2
  refine jt_iret jm_m192 8 rfl ?_
  exact ⟨rfl, Fh2⟩
def zb_passes (g : Nat → Nat) (p : Nat) : Int32 := jo (sp_till g p)
def za_passes (g : Nat → Nat) (x : Int32) : Int32 := if nI 0 ≤ x ∧ x < nI (g 1) then zb_passes g x.toNatClampNeg else (-1)
set_option maxHeartbeats 4000000 in
set_option maxRecDepth 20000 in
theorem ca_passes {h : jm_M} {g : Nat → Nat} (R : jf_rel h 0 g) (W : jw g) {x : Int32} : jt_T 88 (0, [(0, .inr (.inr (0, 0, 0))), (1, .inl (x))], [], h) (fun u h' => u = some (.inl (za_passes g x)) ∧ jf_fr 1 h h') := by
  have bn := jw_n W
  have bm := jw_m W
  have bt := jw_t W
  refine jt_go jm_m88 0 3 (f' := (5, [(0, .inr (.inr (0, 0, 0))), (1, .inl (x))], [.inl (x), .inr (.inr (2, 0, 0))], h)) (P := True) rfl trivial ?_
  refine jt_callp (w := .inl (jm_b (nI 0 ≤ x ∧ x < nI (g 1)))) jm_m88 3 (mi' := 8) (as := [.inr (.inr (2, 0, 0)), .inl (x)]) (rest := []) (nxt := 8) rfl rfl jm_m8 rfl rfl (ta_hasMan R W) ?_
  refine jt_ifbne jm_m88 4 (tgt := 13) (nxt := 11) rfl rfl rfl (fun c8 => ?_) (fun c8 => ?_)
  · obtain ⟨p, hbp, rfl⟩ := jx_cat (by omega) c8
    refine jt_go jm_m88 7 4 (f' := (21, [(0, .inr (.inr (0, 0, 0))), (1, .inl (nI p))], [.inr (.inr (2, 0, 0)), .inr (.inr (2, 1, 0))], h)) (P := True) rfl trivial ?_
    refine jt_call jm_m88 11 (mi' := 6) (as := [.inr (.inr (2, 1, 0)), .inr (.inr (2, 0, 0))]) (rest := []) (nxt := 24) rfl rfl jm_m6 rfl rfl (ta_becomes R W (by decide)) ?_
    rintro u h1 ⟨rfl, Rh1, Fh1⟩
    show jt_T 88 (24, [(0, .inr (.inr (0, 0, 0))), (1, .inl (nI p))], [], h1) _
    have Rh1 : jf_rel h1 1 g := Rh1
    have Wh1 : jw (g) := W
    have Zh1 := jf_mov0 R Fh1
    refine jt_go jm_m88 12 2 (f' := (26, [(0, .inr (.inr (0, 0, 0))), (1, .inl (nI p))], [.inl (nI p), .inr (.inr (0, 0, 0))], h1)) (P := True) rfl trivial ?_
    refine jt_call jm_m88 14 (mi' := 89) (as := [.inr (.inr (0, 0, 0)), .inl (nI p)]) (rest := []) (nxt := 29) rfl rfl jm_m89 rfl rfl (ca_till Rh1 Wh1 (by omega)) ?_
    rintro u h2 ⟨rfl, Fh2⟩
    show jt_T 88 (29, [(0, .inr (.inr (0, 0, 0))), (1, .inl (nI p))], [.inl (jo (sp_till g p))], h2) _
    have Zh2 := jf_mov0 Zh1 Fh2
    have Fh2 := jf_fr_tr Fh1 Fh2
    refine jt_iret jm_m88 15 rfl ?_
    refine ⟨jt_li ?_, Fh2⟩
    unfold za_passes
    refine Eq.trans ?_ (if_pos c8).symm
    rw [nI_clamp (n := p) (by omega)]
    unfold zb_passes
    (repeat' split) <;> first | done | rfl | (exfalso; omega) | exact (jm_b_pos (by assumption)).symm | exact (jm_b_neg (by assumption)).symm | exact congrArg (fun z => nI (g z)) (by omega) | exact congrArg nI (by omega) | (congr 1; omega)
  · refine jt_go jm_m88 5 1 (f' := (12, [(0, .inr (.inr (0, 0, 0))), (1, .inl (x))], [.inl ((-1))], h)) (P := True) rfl trivial ?_
    refine jt_iret jm_m88 6 rfl ?_
    exact ⟨jt_li (if_neg (fun z => c8 z)).symm, jf_fr_rf⟩
set_option maxHeartbeats 4000000 in
set_option maxRecDepth 20000 in
theorem cb_passes {h : jm_M} {g : Nat → Nat} (R : jg_rel h 0 g) (W : jw g) {x : Int32} : jt_T 193 (0, [(0, .inr (.inr (4, 0, 0))), (1, .inl (x))], [], h) (fun u h' => u = some (.inl (za_passes g x)) ∧ jg_fr 1 h h') := by
  have bn := jw_n W
  have bm := jw_m W
  have bt := jw_t W
  refine jt_go jm_m193 0 2 (f' := (2, [(0, .inr (.inr (4, 0, 0))), (1, .inl (x))], [.inl (x), .inr (.inr (4, 0, 0))], h)) (P := True) rfl trivial ?_
  refine jt_callp (w := .inl (jm_b (nI 0 ≤ x ∧ x < nI (g 1)))) jm_m193 2 (mi' := 150) (as := [.inr (.inr (4, 0, 0)), .inl (x)]) (rest := []) (nxt := 5) rfl rfl jm_m150 rfl rfl (tb_isMan R W) ?_
  refine jt_ifbeq jm_m193 3 (tgt := 16) (nxt := 8) rfl rfl rfl (fun c5 => ?_) (fun c5 => ?_)
  · refine jt_go jm_m193 8 1 (f' := (17, [(0, .inr (.inr (4, 0, 0))), (1, .inl (x))], [.inl ((-1))], h)) (P := True) rfl trivial ?_
    refine jt_iret jm_m193 9 rfl ?_
    exact ⟨jt_li (if_neg (fun z => c5 z)).symm, jg_fr_rf⟩
  · obtain ⟨p, hbp, rfl⟩ := jx_cat (by omega) c5
    refine jt_go jm_m193 4 2 (f' := (10, [(0, .inr (.inr (4, 0, 0))), (1, .inl (nI p))], [.inl (nI p), .inr (.inr (4, 0, 0))], h)) (P := True) rfl trivial ?_
    refine jt_call jm_m193 6 (mi' := 192) (as := [.inr (.inr (4, 0, 0)), .inl (nI p)]) (rest := []) (nxt := 13) rfl rfl jm_m192 rfl rfl (cb_passesOf R W (by omega)) ?_
    rintro u h1 ⟨rfl, Fh1⟩
    show jt_T 193 (13, [(0, .inr (.inr (4, 0, 0))), (1, .inl (nI p))], [.inl (jo (sp_till g p))], h1) _
    have Zh1 := jg_mov0 R Fh1
    refine jt_go jm_m193 7 1 (f' := (17, [(0, .inr (.inr (4, 0, 0))), (1, .inl (nI p))], [.inl (jo (sp_till g p))], h1)) (P := True) rfl trivial ?_
    refine jt_iret jm_m193 9 rfl ?_
    refine ⟨jt_li ?_, Fh1⟩
    unfold za_passes
    refine Eq.trans ?_ (if_pos c5).symm
    rw [nI_clamp (n := p) (by omega)]
    unfold zb_passes
    (repeat' split) <;> first | done | rfl | (exfalso; omega) | exact (jm_b_pos (by assumption)).symm | exact (jm_b_neg (by assumption)).symm | exact congrArg (fun z => nI (g z)) (by omega) | exact congrArg nI (by omega) | (congr 1; omega)
set_option maxHeartbeats 4000000 in
set_option maxRecDepth 20000 in
theorem ca_meet_l {h : jm_M} {g : Nat → Nat} (W : jw g) {c e : Nat} (hc : c < g 0) (he : e < g 0) : ∀ k, k ≤ 100 → ∀ hm : jm_M, (jf_rel hm 1 (sp_it g k)) → (jf_fr 1 h hm) → jt_T 100 (42, [(0, .inr (.inr (0, 0, 0))), (1, .inl (nI c)), (2, .inl (nI e)), (3, .inl (nI k))], [], hm) (fun u h' => u = some (.inl (jo (sp_fi (fun k => decide (sp_it g k (38 + 5 * c) = sp_it g k (38 + 5 * e))) k (100 - k)))) ∧ jf_fr 1 h h') := jx_up (P := fun k => ∀ hm : jm_M, (jf_rel hm 1 (sp_it g k)) → (jf_fr 1 h hm) → jt_T 100 (42, [(0, .inr (.inr (0, 0, 0))), (1, .inl (nI c)), (2, .inl (nI e)), (3, .inl (nI k))], [], hm) (fun u h' => u = some (.inl (jo (sp_fi (fun k => decide (sp_it g k (38 + 5 * c) = sp_it g k (38 + 5 * e))) k (100 - k)))) ∧ jf_fr 1 h h')) (fun k hk nx hm Rm Fm => by
  have Wk := (jw_it W k).1
  have e0 := (jw_it W k).2.1
  have e1 := (jw_it W k).2.2
  have bn := jw_n W
  have bm := jw_m W
  refine jt_go jm_m100 22 2 (f' := (45, [(0, .inr (.inr (0, 0, 0))), (1, .inl (nI c)), (2, .inl (nI e)), (3, .inl (nI k))], [.inl (nI 99), .inl (nI k)], hm)) (P := True) rfl trivial ?_
  refine jt_nicgt jm_m100 24 (a := k) (b := 99) (by omega) (by omega) (tgt := 84) (nxt := 48) rfl rfl rfl (fun c45 => ?_) (fun c45 => ?_)
  · refine jt_go jm_m100 43 1 (f' := (86, [(0, .inr (.inr (0, 0, 0))), (1, .inl (nI c)), (2, .inl (nI e)), (3, .inl (nI k))], [.inl ((-4))], hm)) (P := True) rfl trivial ?_
    refine jt_iret jm_m100 44 rfl ?_
    have e : k = 100 := by omega
    subst e
    exact ⟨rfl, Fm⟩
  · refine jt_go jm_m100 25 5 (f' := (57, [(0, .inr (.inr (0, 0, 0))), (1, .inl (nI c)), (2, .inl (nI e)), (3, .inl (nI k))], [.inl (hm (2, 1, 3) (nI c).toNatClampNeg)], hm)) (P := vp_in (nI c) 6 ∧ True) rfl ⟨(vp_in_nI (by omega) (by decide)), trivial⟩ ?_
    refine jt_ti (show (hm (2, 1, 3) (nI c).toNatClampNeg) = nI ((sp_it g k) (38 + 5 * c)) from jf_at Rm (c := c) (nI_clamp (by omega)) (by omega)) ?_
    have bq1 := jw_at Wk (c := c) (by omega)
    refine jt_go jm_m100 30 5 (f' := (66, [(0, .inr (.inr (0, 0, 0))), (1, .inl (nI c)), (2, .inl (nI e)), (3, .inl (nI k))], [.inl (hm (2, 1, 3) (nI e).toNatClampNeg), .inl (nI ((sp_it g k) (38 + 5 * c)))], hm)) (P := vp_in (nI e) 6 ∧ True) rfl ⟨(vp_in_nI (by omega) (by decide)), trivial⟩ ?_
    refine jt_ti (show (hm (2, 1, 3) (nI e).toNatClampNeg) = nI ((sp_it g k) (38 + 5 * e)) from jf_at Rm (c := e) (nI_clamp (by omega)) (by omega)) ?_
    have bq2 := jw_at Wk (c := e) (by omega)
    refine jt_nicne jm_m100 35 (a := (sp_it g k) (38 + 5 * c)) (b := (sp_it g k) (38 + 5 * e)) (by omega) (by omega) (tgt := 71) (nxt := 69) rfl rfl rfl (fun c66 => ?_) (fun c66 => ?_)
    · refine jt_go jm_m100 38 2 (f' := (75, [(0, .inr (.inr (0, 0, 0))), (1, .inl (nI c)), (2, .inl (nI e)), (3, .inl (nI k))], [.inr (.inr (2, 1, 0))], hm)) (P := True) rfl trivial ?_
      refine jt_call jm_m100 40 (mi' := 18) (as := [.inr (.inr (2, 1, 0))]) (rest := []) (nxt := 78) rfl rfl jm_m18 rfl rfl (ta_hour Rm Wk) ?_
      rintro u h1 ⟨rfl, Rh1, Fh1, Ch1⟩
      show jt_T 100 (78, [(0, .inr (.inr (0, 0, 0))), (1, .inl (nI c)), (2, .inl (nI e)), (3, .inl (nI k))], [], h1) _
      have Rh1 : jf_rel h1 1 (sp_it g (k + 1)) := Rh1
      have Wh1 := (jw_it W (k + 1)).1
      have uh1 := sp_set_lt Wk (kept := false)
      have Fh1 := jf_fr_tr Fm Fh1
      refine jt_inc jm_m100 41 (c := k) (L' := [(3, .inl (nI (k + 1))), (0, .inr (.inr (0, 0, 0))), (1, .inl (nI c)), (2, .inl (nI e))]) rfl rfl rfl rfl ?_
      refine jt_go jm_m100 42 1 (f' := (42, [(3, .inl (nI (k + 1))), (0, .inr (.inr (0, 0, 0))), (1, .inl (nI c)), (2, .inl (nI e))], [], h1)) (P := True) rfl trivial ?_
      refine jt_pick (L' := [(0, .inr (.inr (0, 0, 0))), (1, .inl (nI c)), (2, .inl (nI e)), (3, .inl (nI (k + 1)))]) [1, 2, 3, 0] rfl ?_
      rw [sp_fi_neg (by omega) (fun z => c66 (of_decide_eq_true z))]
      exact nx (by omega) h1 Rh1 Fh1
    · refine jt_go jm_m100 36 1 (f' := (70, [(0, .inr (.inr (0, 0, 0))), (1, .inl (nI c)), (2, .inl (nI e)), (3, .inl (nI k))], [.inl (nI k)], hm)) (P := True) rfl trivial ?_
      refine jt_iret jm_m100 37 rfl ?_
      rw [sp_fi_pos (by omega) (decide_eq_true c66)]
      exact ⟨rfl, Fm⟩)
set_option maxHeartbeats 4000000 in
set_option maxRecDepth 20000 in
theorem cb_meet_l {h : jm_M} {g : Nat → Nat} (W : jw g) {c e : Nat} (hc : c < g 0) (he : e < g 0) : ∀ k, k ≤ 100 → ∀ hm : jm_M, (jg_rel hm 1 (sp_it g k)) → (jg_fr 1 h hm) → jt_T 204 (36, [(0, .inr (.inr (4, 0, 0))), (1, .inl (nI c)), (2, .inl (nI e)), (3, .inl (nI k))], [], hm) (fun u h' => u = some (.inl (jo (sp_fi (fun k => decide (sp_it g k (38 + 5 * c) = sp_it g k (38 + 5 * e))) k (100 - k)))) ∧ jg_fr 1 h h') := jx_up (P := fun k => ∀ hm : jm_M, (jg_rel hm 1 (sp_it g k)) → (jg_fr 1 h hm) → jt_T 204 (36, [(0, .inr (.inr (4, 0, 0))), (1, .inl (nI c)), (2, .inl (nI e)), (3, .inl (nI k))], [], hm) (fun u h' => u = some (.inl (jo (sp_fi (fun k => decide (sp_it g k (38 + 5 * c) = sp_it g k (38 + 5 * e))) k (100 - k)))) ∧ jg_fr 1 h h')) (fun k hk nx hm Rm Fm => by
  have Wk := (jw_it W k).1
  have e0 := (jw_it W k).2.1
  have e1 := (jw_it W k).2.2
  have bn := jw_n W
  have bm := jw_m W
  refine jt_go jm_m204 20 2 (f' := (39, [(0, .inr (.inr (4, 0, 0))), (1, .inl (nI c)), (2, .inl (nI e)), (3, .inl (nI k))], [.inl (nI 99), .inl (nI k)], hm)) (P := True) rfl trivial ?_
  refine jt_nicgt jm_m204 22 (a := k) (b := 99) (by omega) (by omega) (tgt := 83) (nxt := 42) rfl rfl rfl (fun c39 => ?_) (fun c39 => ?_)
  · refine jt_go jm_m204 45 1 (f' := (85, [(0, .inr (.inr (4, 0, 0))), (1, .inl (nI c)), (2, .inl (nI e)), (3, .inl (nI k))], [.inl ((-4))], hm)) (P := True) rfl trivial ?_
    refine jt_iret jm_m204 46 rfl ?_
    have e : k = 100 := by omega
    subst e
    exact ⟨rfl, Fm⟩
  · refine jt_go jm_m204 23 4 (f' := (48, [(0, .inr (.inr (4, 0, 0))), (1, .inl (nI c)), (2, .inl (nI e)), (3, .inl (nI k))], [.inl (nI 2), .inl (nI c), .inr (.inr (5, 1, 0))], hm)) (P := True) rfl trivial ?_
    refine jt_callp (w := .inl (nI (38 + 5 * c))) jm_m204 27 (mi' := 147) (as := [.inl (nI c), .inl (nI 2)]) (rest := [.inr (.inr (5, 1, 0))]) (nxt := 51) rfl rfl jm_m147 rfl rfl (tb_ofC (k := 38 + 5 * c) (by omega)) ?_
    refine jt_go jm_m204 28 1 (f' := (52, [(0, .inr (.inr (4, 0, 0))), (1, .inl (nI c)), (2, .inl (nI e)), (3, .inl (nI k))], [.inl (hm (5, 1, 0) (nI (38 + 5 * c)).toNatClampNeg)], hm)) (P := vp_in (nI (38 + 5 * c)) 78 ∧ True) rfl ⟨(vp_in_nI (by omega) (by decide)), trivial⟩ ?_
    refine jt_ti (show (hm (5, 1, 0) (nI (38 + 5 * c)).toNatClampNeg) = nI ((sp_it g k) (38 + 5 * c)) from jg_get Rm (k := 38 + 5 * c) (nI_clamp (by omega)) (by omega)) ?_
    have bq1 := jw_at Wk (c := c) (by omega)
    refine jt_go jm_m204 29 4 (f' := (58, [(0, .inr (.inr (4, 0, 0))), (1, .inl (nI c)), (2, .inl (nI e)), (3, .inl (nI k))], [.inl (nI 2), .inl (nI e), .inr (.inr (5, 1, 0)), .inl (nI ((sp_it g k) (38 + 5 * c)))], hm)) (P := True) rfl trivial ?_
    refine jt_callp (w := .inl (nI (38 + 5 * e))) jm_m204 33 (mi' := 147) (as := [.inl (nI e), .inl (nI 2)]) (rest := [.inr (.inr (5, 1, 0)), .inl (nI ((sp_it g k) (38 + 5 * c)))]) (nxt := 61) rfl rfl jm_m147 rfl rfl (tb_ofC (k := 38 + 5 * e) (by omega)) ?_
    refine jt_go jm_m204 34 1 (f' := (62, [(0, .inr (.inr (4, 0, 0))), (1, .inl (nI c)), (2, .inl (nI e)), (3, .inl (nI k))], [.inl (hm (5, 1, 0) (nI (38 + 5 * e)).toNatClampNeg), .inl (nI ((sp_it g k) (38 + 5 * c)))], hm)) (P := vp_in (nI (38 + 5 * e)) 78 ∧ True) rfl ⟨(vp_in_nI (by omega) (by decide)), trivial⟩ ?_
    refine jt_ti (show (hm (5, 1, 0) (nI (38 + 5 * e)).toNatClampNeg) = nI ((sp_it g k) (38 + 5 * e)) from jg_get Rm (k := 38 + 5 * e) (nI_clamp (by omega)) (by omega)) ?_
    have bq2 := jw_at Wk (c := e) (by omega)
    refine jt_nicne jm_m204 35 (a := (sp_it g k) (38 + 5 * c)) (b := (sp_it g k) (38 + 5 * e)) (by omega) (by omega) (tgt := 67) (nxt := 65) rfl rfl rfl (fun c62 => ?_) (fun c62 => ?_)
    · refine jt_go jm_m204 38 3 (f' := (72, [(0, .inr (.inr (4, 0, 0))), (1, .inl (nI c)), (2, .inl (nI e)), (3, .inl (nI k))], [.inl (nI 0), .inr (.inr (5, 1, 0))], hm)) (P := True) rfl trivial ?_
      refine jt_call jm_m204 41 (mi' := 163) (as := [.inr (.inr (5, 1, 0)), .inl (nI 0)]) (rest := []) (nxt := 75) rfl rfl jm_m163 rfl rfl (tb_hour0 Rm Wk) ?_
      rintro u h1 ⟨rfl, Rh1, Fh1⟩
      show jt_T 204 (75, [(0, .inr (.inr (4, 0, 0))), (1, .inl (nI c)), (2, .inl (nI e)), (3, .inl (nI k))], [.inl (nI (sp_set (sp_it g k) false))], h1) _
      have Rh1 : jg_rel h1 1 (sp_it g (k + 1)) := Rh1
      have Wh1 := (jw_it W (k + 1)).1
      have uh1 := sp_set_lt Wk (kept := false)
      have Fh1 := jg_fr_tr Fm Fh1
      refine jt_go jm_m204 42 1 (f' := (77, [(4, .inl (nI (sp_set (sp_it g k) false))), (0, .inr (.inr (4, 0, 0))), (1, .inl (nI c)), (2, .inl (nI e)), (3, .inl (nI k))], [], h1)) (P := True) rfl trivial ?_
      refine jt_inc jm_m204 43 (c := k) (L' := [(3, .inl (nI (k + 1))), (4, .inl (nI (sp_set (sp_it g k) false))), (0, .inr (.inr (4, 0, 0))), (1, .inl (nI c)), (2, .inl (nI e))]) rfl rfl rfl rfl ?_
      refine jt_go jm_m204 44 1 (f' := (36, [(3, .inl (nI (k + 1))), (4, .inl (nI (sp_set (sp_it g k) false))), (0, .inr (.inr (4, 0, 0))), (1, .inl (nI c)), (2, .inl (nI e))], [], h1)) (P := True) rfl trivial ?_
      refine jt_pick (L' := [(0, .inr (.inr (4, 0, 0))), (1, .inl (nI c)), (2, .inl (nI e)), (3, .inl (nI (k + 1)))]) [2, 3, 4, 0] rfl ?_
      rw [sp_fi_neg (by omega) (fun z => c62 (of_decide_eq_true z))]
      exact nx (by omega) h1 Rh1 Fh1
    · refine jt_go jm_m204 36 1 (f' := (66, [(0, .inr (.inr (4, 0, 0))), (1, .inl (nI c)), (2, .inl (nI e)), (3, .inl (nI k))], [.inl (nI k)], hm)) (P := True) rfl trivial ?_
      refine jt_iret jm_m204 37 rfl ?_
      rw [sp_fi_pos (by omega) (decide_eq_true c62)]
      exact ⟨rfl, Fm⟩)
def zb_meet (g : Nat → Nat) (c e : Nat) : Int32 := jo (sp_fi (fun k => decide (sp_it g k (38 + 5 * c) = sp_it g k (38 + 5 * e))) 0 100)
def za_meet (g : Nat → Nat) (x y : Int32) : Int32 := if (nI 0 ≤ x ∧ x < nI (g 0)) ∧ (nI 0 ≤ y ∧ y < nI (g 0)) ∧ (¬ x = y) then zb_meet g x.toNatClampNeg y.toNatClampNeg else (-1)
set_option maxHeartbeats 4000000 in
set_option maxRecDepth 20000 in
theorem ca_meet {h : jm_M} {g : Nat → Nat} (R : jf_rel h 0 g) (W : jw g) {x y : Int32} : jt_T 100 (0, [(0, .inr (.inr (0, 0, 0))), (1, .inl (x)), (2, .inl (y))], [], h) (fun u h' => u = some (.inl (za_meet g x y)) ∧ jf_fr 1 h h') := by
  have bn := jw_n W
  have bm := jw_m W
  have bt := jw_t W
  refine jt_go jm_m100 0 3 (f' := (5, [(0, .inr (.inr (0, 0, 0))), (1, .inl (x)), (2, .inl (y))], [.inl (x), .inr (.inr (2, 0, 0))], h)) (P := True) rfl trivial ?_
  refine jt_callp (w := .inl (jm_b (nI 0 ≤ x ∧ x < nI (g 0)))) jm_m100 3 (mi' := 7) (as := [.inr (.inr (2, 0, 0)), .inl (x)]) (rest := []) (nxt := 8) rfl rfl jm_m7 rfl rfl (ta_hasCat R W) ?_
  refine jt_ifbeq jm_m100 4 (tgt := 27) (nxt := 11) rfl rfl rfl (fun c8 => ?_) (fun c8 => ?_)
  · refine jt_go jm_m100 13 1 (f' := (28, [(0, .inr (.inr (0, 0, 0))), (1, .inl (x)), (2, .inl (y))], [.inl ((-1))], h)) (P := True) rfl trivial ?_
    refine jt_iret jm_m100 14 rfl ?_
    exact ⟨jt_li (if_neg (fun z => c8 z.1)).symm, jf_fr_rf⟩
  · obtain ⟨c, hbc, rfl⟩ := jx_cat (by omega) c8
    refine jt_go jm_m100 5 3 (f' := (16, [(0, .inr (.inr (0, 0, 0))), (1, .inl (nI c)), (2, .inl (y))], [.inl (y), .inr (.inr (2, 0, 0))], h)) (P := True) rfl trivial ?_
    refine jt_callp (w := .inl (jm_b (nI 0 ≤ y ∧ y < nI (g 0)))) jm_m100 8 (mi' := 7) (as := [.inr (.inr (2, 0, 0)), .inl (y)]) (rest := []) (nxt := 19) rfl rfl jm_m7 rfl rfl (ta_hasCat R W) ?_
    refine jt_ifbeq jm_m100 9 (tgt := 27) (nxt := 22) rfl rfl rfl (fun c19 => ?_) (fun c19 => ?_)
    · refine jt_go jm_m100 13 1 (f' := (28, [(0, .inr (.inr (0, 0, 0))), (1, .inl (nI c)), (2, .inl (y))], [.inl ((-1))], h)) (P := True) rfl trivial ?_
      refine jt_iret jm_m100 14 rfl ?_
      exact ⟨jt_li (if_neg (fun z => c19 z.2.1)).symm, jf_fr_rf⟩
    · obtain ⟨e, hbe, rfl⟩ := jx_cat (by omega) c19
      refine jt_go jm_m100 10 2 (f' := (24, [(0, .inr (.inr (0, 0, 0))), (1, .inl (nI c)), (2, .inl (nI e))], [.inl (nI e), .inl (nI c)], h)) (P := True) rfl trivial ?_
      refine jt_nicne jm_m100 12 (a := c) (b := e) (by omega) (by omega) (tgt := 29) (nxt := 27) rfl rfl rfl (fun c24 => ?_) (fun c24 => ?_)
      · have hne : ¬ nI c = nI e := fun z => c24 (nI_inj (by omega) (by omega) z)
        refine jt_go jm_m100 15 4 (f' := (37, [(0, .inr (.inr (0, 0, 0))), (1, .inl (nI c)), (2, .inl (nI e))], [.inr (.inr (2, 0, 0)), .inr (.inr (2, 1, 0))], h)) (P := True) rfl trivial ?_
        refine jt_call jm_m100 19 (mi' := 6) (as := [.inr (.inr (2, 1, 0)), .inr (.inr (2, 0, 0))]) (rest := []) (nxt := 40) rfl rfl jm_m6 rfl rfl (ta_becomes R W (by decide)) ?_
        rintro u h1 ⟨rfl, Rh1, Fh1⟩
        show jt_T 100 (40, [(0, .inr (.inr (0, 0, 0))), (1, .inl (nI c)), (2, .inl (nI e))], [], h1) _
        have Rh1 : jf_rel h1 1 g := Rh1
        have Wh1 : jw (g) := W
        have Zh1 := jf_mov0 R Fh1
        refine jt_go jm_m100 20 2 (f' := (42, [(3, .inl (nI 0)), (0, .inr (.inr (0, 0, 0))), (1, .inl (nI c)), (2, .inl (nI e))], [], h1)) (P := True) rfl trivial ?_
        refine jt_pick (L' := [(0, .inr (.inr (0, 0, 0))), (1, .inl (nI c)), (2, .inl (nI e)), (3, .inl (nI 0))]) [1, 2, 3, 0] rfl ?_
        refine jt_mono (ca_meet_l (h := h1) W hbc hbe 0 (Nat.zero_le _) _ Rh1 jf_fr_rf) (fun u h2 zz => ⟨zz.1.trans (jt_li ?_), jf_fr_tr Fh1 zz.2⟩)
        unfold za_meet
        refine Eq.trans ?_ (if_pos ⟨c8, c19, hne⟩).symm
        rw [nI_clamp (n := c) (by omega), nI_clamp (n := e) (by omega)]
        unfold zb_meet
        first | done | rfl
      · have hq : ¬ ¬ nI c = nI e := not_not_intro (by rw [c24])
        refine jt_go jm_m100 13 1 (f' := (28, [(0, .inr (.inr (0, 0, 0))), (1, .inl (nI c)), (2, .inl (nI e))], [.inl ((-1))], h)) (P := True) rfl trivial ?_
        refine jt_iret jm_m100 14 rfl ?_
        exact ⟨jt_li (if_neg (fun z => hq z.2.2)).symm, jf_fr_rf⟩
set_option maxHeartbeats 4000000 in
set_option maxRecDepth 20000 in
theorem cb_meet {h : jm_M} {g : Nat → Nat} (R : jg_rel h 0 g) (W : jw g) {x y : Int32} : jt_T 204 (0, [(0, .inr (.inr (4, 0, 0))), (1, .inl (x)), (2, .inl (y))], [], h) (fun u h' => u = some (.inl (za_meet g x y)) ∧ jg_fr 1 h h') := by
  have bn := jw_n W
  have bm := jw_m W
  have bt := jw_t W
  refine jt_go jm_m204 0 2 (f' := (2, [(0, .inr (.inr (4, 0, 0))), (1, .inl (x)), (2, .inl (y))], [.inl (x), .inr (.inr (4, 0, 0))], h)) (P := True) rfl trivial ?_
  refine jt_callp (w := .inl (jm_b (nI 0 ≤ x ∧ x < nI (g 0)))) jm_m204 2 (mi' := 149) (as := [.inr (.inr (4, 0, 0)), .inl (x)]) (rest := []) (nxt := 5) rfl rfl jm_m149 rfl rfl (tb_isCat R W) ?_
  refine jt_ifbeq jm_m204 3 (tgt := 21) (nxt := 8) rfl rfl rfl (fun c5 => ?_) (fun c5 => ?_)
  · refine jt_go jm_m204 11 1 (f' := (22, [(0, .inr (.inr (4, 0, 0))), (1, .inl (x)), (2, .inl (y))], [.inl ((-1))], h)) (P := True) rfl trivial ?_
    refine jt_iret jm_m204 12 rfl ?_
    exact ⟨jt_li (if_neg (fun z => c5 z.1)).symm, jg_fr_rf⟩
  · obtain ⟨c, hbc, rfl⟩ := jx_cat (by omega) c5
    refine jt_go jm_m204 4 2 (f' := (10, [(0, .inr (.inr (4, 0, 0))), (1, .inl (nI c)), (2, .inl (y))], [.inl (y), .inr (.inr (4, 0, 0))], h)) (P := True) rfl trivial ?_
    refine jt_callp (w := .inl (jm_b (nI 0 ≤ y ∧ y < nI (g 0)))) jm_m204 6 (mi' := 149) (as := [.inr (.inr (4, 0, 0)), .inl (y)]) (rest := []) (nxt := 13) rfl rfl jm_m149 rfl rfl (tb_isCat R W) ?_
    refine jt_ifbeq jm_m204 7 (tgt := 21) (nxt := 16) rfl rfl rfl (fun c13 => ?_) (fun c13 => ?_)
    · refine jt_go jm_m204 11 1 (f' := (22, [(0, .inr (.inr (4, 0, 0))), (1, .inl (nI c)), (2, .inl (y))], [.inl ((-1))], h)) (P := True) rfl trivial ?_
      refine jt_iret jm_m204 12 rfl ?_
      exact ⟨jt_li (if_neg (fun z => c13 z.2.1)).symm, jg_fr_rf⟩
    · obtain ⟨e, hbe, rfl⟩ := jx_cat (by omega) c13
      refine jt_go jm_m204 8 2 (f' := (18, [(0, .inr (.inr (4, 0, 0))), (1, .inl (nI c)), (2, .inl (nI e))], [.inl (nI e), .inl (nI c)], h)) (P := True) rfl trivial ?_
      refine jt_nicne jm_m204 10 (a := c) (b := e) (by omega) (by omega) (tgt := 23) (nxt := 21) rfl rfl rfl (fun c18 => ?_) (fun c18 => ?_)
      · have hne : ¬ nI c = nI e := fun z => c18 (nI_inj (by omega) (by omega) z)
        refine jt_go jm_m204 13 4 (f' := (31, [(0, .inr (.inr (4, 0, 0))), (1, .inl (nI c)), (2, .inl (nI e))], [.inr (.inr (5, 1, 0)), .inr (.inr (5, 0, 0))], h)) (P := True) rfl trivial ?_
        refine jt_call jm_m204 17 (mi' := 146) (as := [.inr (.inr (5, 0, 0)), .inr (.inr (5, 1, 0))]) (rest := []) (nxt := 34) rfl rfl jm_m146 rfl rfl (tb_copies R (by decide)) ?_
        rintro u h1 ⟨rfl, Rh1, Fh1⟩
        show jt_T 204 (34, [(0, .inr (.inr (4, 0, 0))), (1, .inl (nI c)), (2, .inl (nI e))], [], h1) _
        have Rh1 : jg_rel h1 1 g := Rh1
        have Wh1 : jw (g) := W
        have Zh1 := jg_mov0 R Fh1
        refine jt_go jm_m204 18 2 (f' := (36, [(3, .inl (nI 0)), (0, .inr (.inr (4, 0, 0))), (1, .inl (nI c)), (2, .inl (nI e))], [], h1)) (P := True) rfl trivial ?_
        refine jt_pick (L' := [(0, .inr (.inr (4, 0, 0))), (1, .inl (nI c)), (2, .inl (nI e)), (3, .inl (nI 0))]) [1, 2, 3, 0] rfl ?_
        refine jt_mono (cb_meet_l (h := h1) W hbc hbe 0 (Nat.zero_le _) _ Rh1 jg_fr_rf) (fun u h2 zz => ⟨zz.1.trans (jt_li ?_), jg_fr_tr Fh1 zz.2⟩)
        unfold za_meet
        refine Eq.trans ?_ (if_pos ⟨c5, c13, hne⟩).symm
        rw [nI_clamp (n := c) (by omega), nI_clamp (n := e) (by omega)]
        unfold zb_meet
        first | done | rfl
      · have hq : ¬ ¬ nI c = nI e := not_not_intro (by rw [c18])
        refine jt_go jm_m204 11 1 (f' := (22, [(0, .inr (.inr (4, 0, 0))), (1, .inl (nI c)), (2, .inl (nI e))], [.inl ((-1))], h)) (P := True) rfl trivial ?_
        refine jt_iret jm_m204 12 rfl ?_
        exact ⟨jt_li (if_neg (fun z => hq z.2.2)).symm, jg_fr_rf⟩
