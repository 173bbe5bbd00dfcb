/-! TEXT: the first bad place. -/
abbrev dgt (s : Nat → Nat → Nat) (e : Nat → Nat → Int32) (d i : Nat) : Prop := 48 ≤ cc s e d i ∧ cc s e d i ≤ 57
/-- the bad place of one statement from p on -/
def st_bad (s : Nat → Nat → Nat) (e : Nat → Nat → Int32) (d p : Nat) : Option Nat :=
  if dg (cc s e d p) = 0 then some p else
  match sp_fi (fun i => decide (¬ dgt s e d (p + i))) 1 (dg (cc s e d p)) with
  | some i => some (p + i)
  | none => if cc s e d (p + dg (cc s e d p) + 1) = 59 then none else some (p + dg (cc s e d p) + 1)
theorem sp_fi_at2 {P : Nat → Bool} {j : Nat} : ∀ d k, k ≤ j → j < k + d → P j = true → (∀ i, k ≤ i → i < j → ¬ P i = true) → sp_fi P k d = some j
  | 0, k, h1, h2, _, _ => by omega
  | d + 1, k, h1, h2, h3, h4 => by
    by_cases q : k = j
    · subst q; exact if_pos h3
    · exact (if_neg (h4 k (Nat.le_refl _) (by omega))).trans (sp_fi_at2 d (k + 1) (by omega) (by omega) h3 (fun i h5 h6 => h4 i (by omega) h6))
theorem sp_fi_no2 {P : Nat → Bool} : ∀ d k, (∀ i, k ≤ i → i < k + d → ¬ P i = true) → sp_fi P k d = none
  | 0, _, _ => rfl
  | d + 1, k, h => (if_neg (h k (Nat.le_refl _) (by omega))).trans (sp_fi_no2 d (k + 1) (fun i h5 h6 => h i (by omega) (by omega)))
theorem tx_neg {x : Int32} (h : x < 0) (q : ¬ x < nI 48) : False := q (Int32.lt_of_lt_of_le h (by decide))
set_option maxHeartbeats 4000000 in
set_option maxRecDepth 20000 in
theorem tk_bad_d {h : jm_M} {s : Nat → Nat → Nat} {e : Nat → Nat → Int32} (K : jk_rel h s e) (Y : kw s) (B : ke s e) {d : Nat} (hd : d ≤ 7) (qa : s d 0 = 2) (q3 : s d 3 = 0) {p k : Nat} (hk4 : k ≤ 4) (hp : p ≤ 100) {Q : Option jm_V → jm_M → Prop} (kont : (∀ j, 1 ≤ j → j ≤ k → dgt s e d (p + j)) → jt_T 58 (56, [(3, .inl (nI (p + (k + 1)))), (2, .inl (nI k)), (1, .inl (nI p)), (0, .inr (.inr (3, d, 0)))], [], h) Q) (res : ∀ i, 1 ≤ i → i ≤ k → (∀ j, 1 ≤ j → j < i → dgt s e d (p + j)) → ¬ dgt s e d (p + i) → Q (some (.inl (nI (p + i)))) h) : ∀ i, i ≤ k + 1 → (1 ≤ i) → (∀ j, 1 ≤ j → j < i → dgt s e d (p + j)) → jt_T 58 (21, [(3, .inl (nI (p + i))), (2, .inl (nI k)), (1, .inl (nI p)), (0, .inr (.inr (3, d, 0)))], [], h) (Q) := jx_up (P := fun i => (1 ≤ i) → (∀ j, 1 ≤ j → j < i → dgt s e d (p + j)) → jt_T 58 (21, [(3, .inl (nI (p + i))), (2, .inl (nI k)), (1, .inl (nI p)), (0, .inr (.inr (3, d, 0)))], [], h) (Q)) (fun i hk nx  hi1 A => by
  · skip
    show jt_T 58 (21, [(3, .inl (nI (p + i))), (2, .inl (nI k)), (1, .inl (nI p)), (0, .inr (.inr (3, d, 0)))], [], h) _
    refine jt_go jm_m58 15 4 (f' := (25, [(3, .inl (nI (p + i))), (2, .inl (nI k)), (1, .inl (nI p)), (0, .inr (.inr (3, d, 0)))], [.inl ((nI p) + (nI k)), .inl (nI (p + i))], h)) (P := True) rfl trivial ?_
    refine jt_ti (show ((nI p) + (nI k)) = nI (p + k) from nI_add _ _) ?_
    refine jt_nicgt jm_m58 19 (a := p + i) (b := p + k) (by omega) (by omega) (tgt := 56) (nxt := 28) rfl rfl rfl (fun c25 => ?_) (fun c25 => ?_)
    · refine jt_pick (L' := [(3, .inl (nI (p + i))), (2, .inl (nI k)), (1, .inl (nI p)), (0, .inr (.inr (3, d, 0)))]) [0, 1, 2, 3] rfl ?_
      have e_ : i = k + 1 := by omega
      subst e_
      exact kont (fun j h1 h2 => A j h1 (by omega))
    · refine jt_go jm_m58 20 2 (f' := (30, [(3, .inl (nI (p + i))), (2, .inl (nI k)), (1, .inl (nI p)), (0, .inr (.inr (3, d, 0)))], [.inl (nI (p + i)), .inr (.inr (3, d, 0))], h)) (P := True) rfl trivial ?_
      refine jt_callp (w := .inl (tg s e d (p + i))) jm_m58 22 (mi' := 46) (as := [.inr (.inr (3, d, 0)), .inl (nI (p + i))]) (rest := []) (nxt := 33) rfl rfl jm_m46 rfl rfl (tk_getx K Y (by omega) (by assumption) (by omega)) ?_
      rcases tg_cs B Y hd qa q3 (p + i) with ⟨c, hc, et, ec⟩ | ⟨et, ec⟩
      · refine jt_ti (show tg s e d (p + i) = nI c from et) ?_
        show jt_T 58 (33, [(3, .inl (nI (p + i))), (2, .inl (nI k)), (1, .inl (nI p)), (0, .inr (.inr (3, d, 0)))], [.inl (nI c)], h) _
        refine jt_go jm_m58 23 1 (f' := (35, [(3, .inl (nI (p + i))), (2, .inl (nI k)), (1, .inl (nI p)), (0, .inr (.inr (3, d, 0)))], [.inl (nI 48), .inl (nI c)], h)) (P := True) rfl trivial ?_
        refine jt_niclt jm_m58 24 (a := c) (b := 48) (by omega) (by omega) (tgt := 48) (nxt := 38) rfl rfl rfl (fun c35 => ?_) (fun c35 => ?_)
        · refine jt_go jm_m58 30 1 (f' := (49, [(3, .inl (nI (p + i))), (2, .inl (nI k)), (1, .inl (nI p)), (0, .inr (.inr (3, d, 0)))], [.inl (nI (p + i))], h)) (P := True) rfl trivial ?_
          refine jt_iret jm_m58 31 rfl ?_
          exact res i (by omega) (by omega) A (fun z => by have := z.1; have := z.2; omega)
        · refine jt_go jm_m58 25 2 (f' := (40, [(3, .inl (nI (p + i))), (2, .inl (nI k)), (1, .inl (nI p)), (0, .inr (.inr (3, d, 0)))], [.inl (nI (p + i)), .inr (.inr (3, d, 0))], h)) (P := True) rfl trivial ?_
          refine jt_callp (w := .inl (nI c)) jm_m58 27 (mi' := 46) (as := [.inr (.inr (3, d, 0)), .inl (nI (p + i))]) (rest := []) (nxt := 43) rfl rfl jm_m46 rfl rfl (by rw [← et]; exact tk_getx K Y (by omega) (by assumption) (by omega)) ?_
          refine jt_go jm_m58 28 1 (f' := (45, [(3, .inl (nI (p + i))), (2, .inl (nI k)), (1, .inl (nI p)), (0, .inr (.inr (3, d, 0)))], [.inl (nI 57), .inl (nI c)], h)) (P := True) rfl trivial ?_
          refine jt_nicle jm_m58 29 (a := c) (b := 57) (by omega) (by omega) (tgt := 50) (nxt := 48) rfl rfl rfl (fun c45 => ?_) (fun c45 => ?_)
          · refine jt_inc jm_m58 32 (c := p + i) (L' := [(3, .inl (nI (p + i + 1))), (2, .inl (nI k)), (1, .inl (nI p)), (0, .inr (.inr (3, d, 0)))]) rfl rfl rfl rfl ?_
            refine jt_go jm_m58 33 1 (f' := (21, [(3, .inl (nI (p + i + 1))), (2, .inl (nI k)), (1, .inl (nI p)), (0, .inr (.inr (3, d, 0)))], [], h)) (P := True) rfl trivial ?_
            refine jt_pick (L' := [(3, .inl (nI (p + i + 1))), (2, .inl (nI k)), (1, .inl (nI p)), (0, .inr (.inr (3, d, 0)))]) [0, 1, 2, 3] rfl ?_
            exact nx (by omega) (by omega) (fun j h1 h2 => by
              by_cases q : j = i
              · subst q; exact ⟨by omega, by omega⟩
              · exact A j h1 (by omega))
          · refine jt_go jm_m58 30 1 (f' := (49, [(3, .inl (nI (p + i))), (2, .inl (nI k)), (1, .inl (nI p)), (0, .inr (.inr (3, d, 0)))], [.inl (nI (p + i))], h)) (P := True) rfl trivial ?_
            refine jt_iret jm_m58 31 rfl ?_
            exact res i (by omega) (by omega) A (fun z => by have := z.1; have := z.2; omega)
      · show jt_T 58 (33, [(3, .inl (nI (p + i))), (2, .inl (nI k)), (1, .inl (nI p)), (0, .inr (.inr (3, d, 0)))], [.inl (tg s e d (p + i))], h) _
        refine jt_go jm_m58 23 1 (f' := (35, [(3, .inl (nI (p + i))), (2, .inl (nI k)), (1, .inl (nI p)), (0, .inr (.inr (3, d, 0)))], [.inl (nI 48), .inl (tg s e d (p + i))], h)) (P := True) rfl trivial ?_
        refine jt_iclt jm_m58 24 (tgt := 48) (nxt := 38) rfl rfl rfl (fun c35 => ?_) (fun c35 => ?_)
        · refine jt_go jm_m58 30 1 (f' := (49, [(3, .inl (nI (p + i))), (2, .inl (nI k)), (1, .inl (nI p)), (0, .inr (.inr (3, d, 0)))], [.inl (nI (p + i))], h)) (P := True) rfl trivial ?_
          refine jt_iret jm_m58 31 rfl ?_
          exact res i (by omega) (by omega) A (fun z => absurd z.1 (by omega))
        · refine jt_go jm_m58 25 2 (f' := (40, [(3, .inl (nI (p + i))), (2, .inl (nI k)), (1, .inl (nI p)), (0, .inr (.inr (3, d, 0)))], [.inl (nI (p + i)), .inr (.inr (3, d, 0))], h)) (P := True) rfl trivial ?_
          refine jt_callp (w := .inl (tg s e d (p + i))) jm_m58 27 (mi' := 46) (as := [.inr (.inr (3, d, 0)), .inl (nI (p + i))]) (rest := []) (nxt := 43) rfl rfl jm_m46 rfl rfl (tk_getx K Y (by omega) (by assumption) (by omega)) ?_
          refine jt_go jm_m58 28 1 (f' := (45, [(3, .inl (nI (p + i))), (2, .inl (nI k)), (1, .inl (nI p)), (0, .inr (.inr (3, d, 0)))], [.inl (nI 57), .inl (tg s e d (p + i))], h)) (P := True) rfl trivial ?_
          refine jt_icle jm_m58 29 (tgt := 50) (nxt := 48) rfl rfl rfl (fun c45 => ?_) (fun c45 => ?_)
          · refine jt_inc jm_m58 32 (c := p + i) (L' := [(3, .inl (nI (p + i + 1))), (2, .inl (nI k)), (1, .inl (nI p)), (0, .inr (.inr (3, d, 0)))]) rfl rfl rfl rfl ?_
            refine jt_go jm_m58 33 1 (f' := (21, [(3, .inl (nI (p + i + 1))), (2, .inl (nI k)), (1, .inl (nI p)), (0, .inr (.inr (3, d, 0)))], [], h)) (P := True) rfl trivial ?_
            refine jt_pick (L' := [(3, .inl (nI (p + i + 1))), (2, .inl (nI k)), (1, .inl (nI p)), (0, .inr (.inr (3, d, 0)))]) [0, 1, 2, 3] rfl ?_
            exact absurd c35 (fun z => tx_neg et z)
          · refine jt_go jm_m58 30 1 (f' := (49, [(3, .inl (nI (p + i))), (2, .inl (nI k)), (1, .inl (nI p)), (0, .inr (.inr (3, d, 0)))], [.inl (nI (p + i))], h)) (P := True) rfl trivial ?_
            refine jt_iret jm_m58 31 rfl ?_
            exact res i (by omega) (by omega) A (fun z => absurd z.1 (by omega)))
