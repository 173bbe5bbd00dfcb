/-! TEXT: what a statement does, and many. -/
theorem dg_pos {c : Nat} (h : ¬ dg c = 0) : c = 99 ∨ c = 102 ∨ c = 104 ∨ c = 109 ∨ c = 119 ∨ c = 120 := by
  unfold dg at h
  by_cases q0 : c = 99
  · omega
  rw [if_neg q0] at h
  by_cases q1 : c = 102
  · omega
  rw [if_neg q1] at h
  by_cases q2 : c = 104
  · omega
  rw [if_neg q2] at h
  by_cases q3 : c = 109
  · omega
  rw [if_neg q3] at h
  by_cases q4 : c = 119
  · omega
  rw [if_neg q4] at h
  by_cases q5 : c = 120
  · omega
  rw [if_neg q5] at h
  exact absurd rfl h
theorem txs_letter {s : Nat → Nat → Nat} {e : Nat → Nat → Int32} {d p : Nat} (h : dg (cc s e d p) = 0) : st_bad s e d p = some p := if_pos h
theorem txs_dig {s : Nat → Nat → Nat} {e : Nat → Nat → Int32} {d p : Nat} {i : Nat} (h0 : ¬ dg (cc s e d p) = 0) (h1 : 1 ≤ i) (h2 : i ≤ dg (cc s e d p)) (A : ∀ j, 1 ≤ j → j < i → dgt s e d (p + j)) (nd : ¬ dgt s e d (p + i)) : st_bad s e d p = some (p + i) := by
  unfold st_bad
  rw [if_neg h0, sp_fi_at2 (j := i) (dg (cc s e d p)) 1 h1 (by omega) (decide_eq_true nd) (fun j g1 g2 z => (of_decide_eq_true z) (A j g1 g2))]
theorem txs_all {s : Nat → Nat → Nat} {e : Nat → Nat → Int32} {d p : Nat} (h0 : ¬ dg (cc s e d p) = 0) (A : ∀ j, 1 ≤ j → j ≤ dg (cc s e d p) → dgt s e d (p + j)) : st_bad s e d p = if cc s e d (p + dg (cc s e d p) + 1) = 59 then none else some (p + dg (cc s e d p) + 1) := by
  have n1 : sp_fi (fun i => decide (¬ dgt s e d (p + i))) 1 (dg (cc s e d p)) = none := sp_fi_no2 _ _ (fun i h1 h2 z => (of_decide_eq_true z) (A i h1 (by omega)))
  unfold st_bad
  rw [if_neg h0, n1]
theorem txs_dec {P : Nat → Prop} (hd : ∀ j, P j ∨ ¬ P j) : ∀ n, (∀ j, 1 ≤ j → j ≤ n → P j) ∨ (∃ i, 1 ≤ i ∧ i ≤ n ∧ (∀ j, 1 ≤ j → j < i → P j) ∧ ¬ P i)
  | 0 => Or.inl (fun j h1 h2 => absurd h1 (by omega))
  | n + 1 => by
    rcases txs_dec hd n with A | ⟨i, h1, h2, A, nd⟩
    · rcases hd (n + 1) with q | q
      · exact Or.inl (fun j h1 h2 => by
          by_cases z : j = n + 1
          · rw [z]; exact q
          · exact A j h1 (by omega))
      · exact Or.inr ⟨n + 1, by omega, Nat.le_refl _, fun j h1 h2 => A j h1 (by omega), q⟩
    · exact Or.inr ⟨i, h1, by omega, A, nd⟩
theorem txs_of {s : Nat → Nat → Nat} {e : Nat → Nat → Int32} {d p : Nat} (S : st_bad s e d p = none) : ¬ dg (cc s e d p) = 0 ∧ (∀ j, 1 ≤ j → j ≤ dg (cc s e d p) → dgt s e d (p + j)) ∧ cc s e d (p + dg (cc s e d p) + 1) = 59 := by
  by_cases h0 : dg (cc s e d p) = 0
  · rw [txs_letter h0] at S; cases S
  · rcases txs_dec (P := fun j => dgt s e d (p + j)) (fun j => Decidable.em _) (dg (cc s e d p)) with A | ⟨i, h1, h2, A, nd⟩
    · refine ⟨h0, A, ?_⟩
      rw [txs_all h0 A] at S
      by_cases q : cc s e d (p + dg (cc s e d p) + 1) = 59
      · exact q
      · rw [if_neg q] at S; cases S
    · rw [txs_dig h0 h1 h2 A nd] at S; cases S
theorem txs_le {s : Nat → Nat → Nat} {e : Nat → Nat → Int32} {d p : Nat} {q : Nat} (S : st_bad s e d p = some q) : q ≤ p + 5 := by
  by_cases h0 : dg (cc s e d p) = 0
  · rw [txs_letter h0] at S; cases S; omega
  · have := dg_le (cc s e d p)
    rcases txs_dec (P := fun j => dgt s e d (p + j)) (fun j => Decidable.em _) (dg (cc s e d p)) with A | ⟨i, h1, h2, A, nd⟩
    · rw [txs_all h0 A] at S
      by_cases z : cc s e d (p + dg (cc s e d p) + 1) = 59
      · rw [if_pos z] at S; cases S
      · rw [if_neg z] at S; cases S; omega
    · rw [txs_dig h0 h1 h2 A nd] at S; cases S; omega
theorem cc_0 {s : Nat → Nat → Nat} {e : Nat → Nat → Int32} {d p : Nat} (h : ¬ p < s d 4) : cc s e d p = 0 := by
  unfold cc tg
  rw [if_neg h, nI_clamp (by decide)]
theorem txs_in {s : Nat → Nat → Nat} {e : Nat → Nat → Int32} {d p : Nat} (S : st_bad s e d p = none) : p + dg (cc s e d p) + 2 ≤ s d 4 := by
  have h := (txs_of S).2.2
  by_cases q : p + dg (cc s e d p) + 1 < s d 4
  · omega
  · rw [cc_0 q] at h; omega
def td_ok (s : Nat → Nat → Nat) (e : Nat → Nat → Int32) (d p : Nat) (g : Nat → Nat) : Bool := if cc s e d p = 99 then decide (sp_num s e d (p + 1) 1 < 8 ∧ sp_num s e d (p + 3) 2 < 16 ∧ g 0 < 6) else if cc s e d p = 109 then decide (sp_num s e d (p + 1) 1 ≤ 1 ∧ g 1 < 6) else if cc s e d p = 102 then decide (sp_num s e d (p + 1) 2 < 16) else if cc s e d p = 120 then decide (sp_num s e d (p + 1) 2 < 16) else if cc s e d p = 119 then decide (sp_num s e d (p + 1) 1 < g 0 ∧ (sp_num s e d (p + 2) 1 = 9 ∨ sp_num s e d (p + 2) 1 < g 1)) else decide ((1 ≤ sp_num s e d (p + 1) 2 ∧ sp_num s e d (p + 1) 2 ≤ 60) ∧ ¬ nI 999 < nI (g 3) + (nI (g 2) + nI (sp_num s e d (p + 1) 2)) / nI 24)
def td_g (s : Nat → Nat → Nat) (e : Nat → Nat → Int32) (d p : Nat) (g : Nat → Nat) : Nat → Nat := if cc s e d p = 99 then sp_ac g (sp_num s e d (p + 1) 1) (sp_num s e d (p + 2) 1) (sp_num s e d (p + 3) 2) else if cc s e d p = 109 then sp_am g (sp_num s e d (p + 1) 1) else if cc s e d p = 102 then sp_up g (4 + sp_num s e d (p + 1) 2) (sp_num s e d (p + 3) 1) else if cc s e d p = 120 then sp_up g (20 + sp_num s e d (p + 1) 2) (sp_num s e d (p + 3) 1) else if cc s e d p = 119 then sp_nm g (sp_num s e d (p + 1) 1) (sp_num s e d (p + 2) 1) else sp_it g (sp_num s e d (p + 1) 2)
theorem td_99 {s : Nat → Nat → Nat} {e : Nat → Nat → Int32} {d p : Nat} {g : Nat → Nat} (h : cc s e d p = 99) : (td_ok s e d p g = true ↔ sp_num s e d (p + 1) 1 < 8 ∧ sp_num s e d (p + 3) 2 < 16 ∧ g 0 < 6) ∧ td_g s e d p g = sp_ac g (sp_num s e d (p + 1) 1) (sp_num s e d (p + 2) 1) (sp_num s e d (p + 3) 2) := ⟨by unfold td_ok; rw [if_pos h]; exact decide_eq_true_iff, by unfold td_g; rw [if_pos h]⟩
theorem td_109 {s : Nat → Nat → Nat} {e : Nat → Nat → Int32} {d p : Nat} {g : Nat → Nat} (h : cc s e d p = 109) : (td_ok s e d p g = true ↔ sp_num s e d (p + 1) 1 ≤ 1 ∧ g 1 < 6) ∧ td_g s e d p g = sp_am g (sp_num s e d (p + 1) 1) := ⟨by unfold td_ok; rw [if_neg (show ¬ cc s e d p = 99 by omega), if_pos h]; exact decide_eq_true_iff, by unfold td_g; rw [if_neg (show ¬ cc s e d p = 99 by omega), if_pos h]⟩
theorem td_102 {s : Nat → Nat → Nat} {e : Nat → Nat → Int32} {d p : Nat} {g : Nat → Nat} (h : cc s e d p = 102) : (td_ok s e d p g = true ↔ sp_num s e d (p + 1) 2 < 16) ∧ td_g s e d p g = sp_up g (4 + sp_num s e d (p + 1) 2) (sp_num s e d (p + 3) 1) := ⟨by unfold td_ok; rw [if_neg (show ¬ cc s e d p = 99 by omega), if_neg (show ¬ cc s e d p = 109 by omega), if_pos h]; exact decide_eq_true_iff, by unfold td_g; rw [if_neg (show ¬ cc s e d p = 99 by omega), if_neg (show ¬ cc s e d p = 109 by omega), if_pos h]⟩
theorem td_120 {s : Nat → Nat → Nat} {e : Nat → Nat → Int32} {d p : Nat} {g : Nat → Nat} (h : cc s e d p = 120) : (td_ok s e d p g = true ↔ sp_num s e d (p + 1) 2 < 16) ∧ td_g s e d p g = sp_up g (20 + sp_num s e d (p + 1) 2) (sp_num s e d (p + 3) 1) := ⟨by unfold td_ok; rw [if_neg (show ¬ cc s e d p = 99 by omega), if_neg (show ¬ cc s e d p = 109 by omega), if_neg (show ¬ cc s e d p = 102 by omega), if_pos h]; exact decide_eq_true_iff, by unfold td_g; rw [if_neg (show ¬ cc s e d p = 99 by omega), if_neg (show ¬ cc s e d p = 109 by omega), if_neg (show ¬ cc s e d p = 102 by omega), if_pos h]⟩
theorem td_119 {s : Nat → Nat → Nat} {e : Nat → Nat → Int32} {d p : Nat} {g : Nat → Nat} (h : cc s e d p = 119) : (td_ok s e d p g = true ↔ sp_num s e d (p + 1) 1 < g 0 ∧ (sp_num s e d (p + 2) 1 = 9 ∨ sp_num s e d (p + 2) 1 < g 1)) ∧ td_g s e d p g = sp_nm g (sp_num s e d (p + 1) 1) (sp_num s e d (p + 2) 1) := ⟨by unfold td_ok; rw [if_neg (show ¬ cc s e d p = 99 by omega), if_neg (show ¬ cc s e d p = 109 by omega), if_neg (show ¬ cc s e d p = 102 by omega), if_neg (show ¬ cc s e d p = 120 by omega), if_pos h]; exact decide_eq_true_iff, by unfold td_g; rw [if_neg (show ¬ cc s e d p = 99 by omega), if_neg (show ¬ cc s e d p = 109 by omega), if_neg (show ¬ cc s e d p = 102 by omega), if_neg (show ¬ cc s e d p = 120 by omega), if_pos h]⟩
theorem td_104 {s : Nat → Nat → Nat} {e : Nat → Nat → Int32} {d p : Nat} {g : Nat → Nat} (h : cc s e d p = 104) : (td_ok s e d p g = true ↔ (1 ≤ sp_num s e d (p + 1) 2 ∧ sp_num s e d (p + 1) 2 ≤ 60) ∧ ¬ nI 999 < nI (g 3) + (nI (g 2) + nI (sp_num s e d (p + 1) 2)) / nI 24) ∧ td_g s e d p g = sp_it g (sp_num s e d (p + 1) 2) := ⟨by unfold td_ok; rw [if_neg (show ¬ cc s e d p = 99 by omega), if_neg (show ¬ cc s e d p = 109 by omega), if_neg (show ¬ cc s e d p = 102 by omega), if_neg (show ¬ cc s e d p = 120 by omega), if_neg (show ¬ cc s e d p = 119 by omega)]; exact decide_eq_true_iff, by unfold td_g; rw [if_neg (show ¬ cc s e d p = 99 by omega), if_neg (show ¬ cc s e d p = 109 by omega), if_neg (show ¬ cc s e d p = 102 by omega), if_neg (show ¬ cc s e d p = 120 by omega), if_neg (show ¬ cc s e d p = 119 by omega)]⟩
/-- statements from p on, n at most: the place of the first that can't be done, and what there is then -/
def tx_f (s : Nat → Nat → Nat) (e : Nat → Nat → Int32) (d : Nat) : Nat → Nat → (Nat → Nat) → Option Nat × (Nat → Nat)
  | 0, _, g => (none, g)
  | n + 1, p, g => if p < s d 4 then (if td_ok s e d p g = true then tx_f s e d n (p + dg (cc s e d p) + 2) (td_g s e d p g) else (some p, g)) else (none, g)
/-- how many statements -/
def tx_n (s : Nat → Nat → Nat) (e : Nat → Nat → Int32) (d : Nat) : Nat → Nat → Nat
  | 0, _ => 0
  | n + 1, p => if p < s d 4 then tx_n s e d n (p + dg (cc s e d p) + 2) + 1 else 0
theorem tx_n_le {s : Nat → Nat → Nat} {e : Nat → Nat → Int32} {d : Nat} : ∀ n p, tx_n s e d n p ≤ n
  | 0, _ => Nat.le_refl _
  | n + 1, p => by
    unfold tx_n
    split
    · have := tx_n_le (s := s) (e := e) (d := d) n (p + dg (cc s e d p) + 2); omega
    · omega
theorem tx_f_s {s : Nat → Nat → Nat} {e : Nat → Nat → Int32} {d n p : Nat} {g : Nat → Nat} (h : p < s d 4) : tx_f s e d (n + 1) p g = if td_ok s e d p g = true then tx_f s e d n (p + dg (cc s e d p) + 2) (td_g s e d p g) else (some p, g) := if_pos h
theorem tx_n_s {s : Nat → Nat → Nat} {e : Nat → Nat → Int32} {d n p : Nat} (h : p < s d 4) : tx_n s e d (n + 1) p = tx_n s e d n (p + dg (cc s e d p) + 2) + 1 := if_pos h
theorem tx_f_e {s : Nat → Nat → Nat} {e : Nat → Nat → Int32} {d n p : Nat} {g : Nat → Nat} (h : ¬ p < s d 4) : tx_f s e d n p g = (none, g) := by
  cases n with
  | zero => rfl
  | succ n => exact if_neg h
theorem tx_n_e {s : Nat → Nat → Nat} {e : Nat → Nat → Int32} {d n p : Nat} (h : ¬ p < s d 4) : tx_n s e d n p = 0 := by
  cases n with
  | zero => rfl
  | succ n => exact if_neg h
theorem tx_b_s {s : Nat → Nat → Nat} {e : Nat → Nat → Int32} {d n p : Nat} (h : tx_bad s e d (n + 1) p = none) : st_bad s e d p = none ∧ (p + dg (cc s e d p) + 2 < s d 4 → tx_bad s e d n (p + dg (cc s e d p) + 2) = none) := by
  unfold tx_bad at h
  cases q : st_bad s e d p with
  | some z => rw [q] at h; cases h
  | none => rw [q] at h; exact ⟨rfl, fun w => (if_pos w).symm.trans h⟩
theorem tx_bad_le {s : Nat → Nat → Nat} {e : Nat → Nat → Int32} {d : Nat} (h4 : s d 4 ≤ 100) : ∀ n p q, p ≤ 100 → tx_bad s e d n p = some q → q ≤ 105
  | 0, _, _, _, h => by cases h
  | n + 1, p, q, hp, h => by
    unfold tx_bad at h
    cases z : st_bad s e d p with
    | some w => rw [z] at h; cases h; have := txs_le z; omega
    | none =>
      rw [z] at h
      have h : (if p + dg (cc s e d p) + 2 < s d 4 then tx_bad s e d n (p + dg (cc s e d p) + 2) else none) = some q := h
      split at h
      · exact tx_bad_le h4 n _ q (by omega) h
      · cases h
theorem td_jw {s : Nat → Nat → Nat} {e : Nat → Nat → Int32} {d p : Nat} {g : Nat → Nat} (S : st_bad s e d p = none) (W : jw g) (h : td_ok s e d p g = true) : jw (td_g s e d p g) := by
  obtain ⟨n0, A, n59⟩ := txs_of S
  have D : ∀ b k, k ≤ 2 → 1 ≤ b → b + k ≤ dg (cc s e d p) + 1 → sp_num s e d (p + b) k < 10 ^ k := fun b k _ h1 h2 => sp_num_lt k (fun i hi => by rw [Nat.add_assoc]; exact A _ (by omega) (by omega))
  have bn := jw_n W
  rcases dg_pos n0 with q | q | q | q | q | q
  · have z : dg (cc s e d p) = 4 := by rw [q]; rfl
    rw [(td_99 q).2]
    have h := (td_99 q).1.mp h
    have f1 := D 2 1 (by omega) (by omega) (by omega)
    exact jw_ac W h.2.2 h.1 (by omega) h.2.1
  · have z : dg (cc s e d p) = 3 := by rw [q]; rfl
    rw [(td_102 q).2]
    have h := (td_102 q).1.mp h
    have f1 := D 3 1 (by omega) (by omega) (by omega)
    exact jw_up_fish W h (by omega)
  · rw [(td_104 q).2]
    exact (jw_it W _).1
  · rw [(td_109 q).2]
    have h := (td_109 q).1.mp h
    exact jw_am W h.1
  · rw [(td_119 q).2]
    have h := (td_119 q).1.mp h
    exact jw_nm_ W (by omega) h.2
  · have z : dg (cc s e d p) = 3 := by rw [q]; rfl
    rw [(td_120 q).2]
    have h := (td_120 q).1.mp h
    have f1 := D 3 1 (by omega) (by omega) (by omega)
    exact jw_up_mice W h (by omega)
theorem tx_f_jw {s : Nat → Nat → Nat} {e : Nat → Nat → Int32} {d : Nat} : ∀ n p g, jw g → (p < s d 4 → tx_bad s e d n p = none) → jw (tx_f s e d n p g).2
  | 0, _, _, W, _ => W
  | n + 1, p, g, W, h => by
    by_cases q : p < s d 4
    · rw [tx_f_s q]
      have b := tx_b_s (h q)
      by_cases z : td_ok s e d p g = true
      · rw [if_pos z]
        exact tx_f_jw n _ _ (td_jw b.1 W z) b.2
      · rw [if_neg z]; exact W
    · rw [tx_f_e q]; exact W
