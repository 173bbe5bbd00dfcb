/-! PURE: the reference's ways to the same numbers. -/
theorem sp_ap_ge {a b : Nat} (h : b ≤ a) : sp_ap a b = a - b := by unfold sp_ap; rw [if_neg (by omega)]
theorem sp_ap_l {a b : Nat} (h : a < b) : sp_ap a b = b - a := by unfold sp_ap; rw [if_pos h]
theorem sp_ap_0 {a b : Nat} : sp_ap a b = 0 ↔ a = b := by unfold sp_ap; split <;> omega
theorem sp_ap_cm (a b : Nat) : sp_ap a b = sp_ap b a := by unfold sp_ap; split <;> split <;> omega
def sp_most (g : Nat → Nat) (o fm : Nat) : Nat → Nat × Nat
  | 0 => (fm, 0)
  | k + 1 => if g (o + k) = 0 ∨ g (o + k) < (sp_most g o fm k).2 ∨ (g (o + k) = (sp_most g o fm k).2 ∧ sp_ap (sp_most g o fm k).1 fm ≤ sp_ap k fm) then sp_most g o fm k else (k, g (o + k))
/-- p does not come ahead of r -/
def sp_nb (g : Nat → Nat) (o fm r p : Nat) : Prop := g (o + p) < g (o + r) ∨ (g (o + p) = g (o + r) ∧ (sp_ap r fm < sp_ap p fm ∨ (sp_ap r fm = sp_ap p fm ∧ r ≤ p)))
theorem sp_rich_nb (g : Nat → Nat) (o fm : Nat) : ∀ k, (sp_rich g o fm k = fm ∨ sp_rich g o fm k < k) ∧ sp_nb g o fm (sp_rich g o fm k) fm ∧ ∀ p, p < k → sp_nb g o fm (sp_rich g o fm k) p := by
  intro k
  have z : sp_ap fm fm = 0 := sp_ap_0.mpr rfl
  induction k with
  | zero => exact ⟨Or.inl rfl, Or.inr ⟨rfl, Or.inr ⟨rfl, Nat.le_refl _⟩⟩, fun p hp => absurd hp (by omega)⟩
  | succ k ih =>
    obtain ⟨h1, h2, h3⟩ := ih
    unfold sp_rich
    split
    · rename_i q
      refine ⟨Or.inr (by omega), ?_, fun p hp => ?_⟩
      · unfold sp_nb at h2 ⊢
        omega
      · by_cases e : p = k
        · subst e; exact Or.inr ⟨rfl, Or.inr ⟨rfl, Nat.le_refl _⟩⟩
        · have h4 := h3 p (by omega)
          unfold sp_nb at h4 ⊢
          omega
    · rename_i q
      refine ⟨by omega, h2, fun p hp => ?_⟩
      by_cases e : p = k
      · subst e
        unfold sp_nb
        rcases h1 with h1 | h1
        · rw [h1, z] at q ⊢
          by_cases e2 : sp_ap p fm = 0
          · have := sp_ap_0.mp e2
            omega
          · omega
        · omega
      · exact h3 p (by omega)
theorem sp_most_nb (g : Nat → Nat) (o fm : Nat) : ∀ k, ((sp_most g o fm k).1 = fm ∧ (sp_most g o fm k).2 = 0 ∧ ∀ p, p < k → g (o + p) = 0) ∨ ((sp_most g o fm k).1 < k ∧ (sp_most g o fm k).2 = g (o + (sp_most g o fm k).1) ∧ 0 < (sp_most g o fm k).2 ∧ ∀ p, p < k → sp_nb g o fm (sp_most g o fm k).1 p) := by
  intro k
  induction k with
  | zero => exact Or.inl ⟨rfl, rfl, fun p hp => absurd hp (by omega)⟩
  | succ k ih =>
    unfold sp_most
    split
    · rename_i q
      rcases ih with ⟨h1, h2, h3⟩ | ⟨h1, h2, h3, h4⟩
      · refine Or.inl ⟨h1, h2, fun p hp => ?_⟩
        by_cases e : p = k
        · subst e
          rw [h1, h2] at q
          rcases q with q | q | q
          · exact q
          · omega
          · exact q.1
        · exact h3 p (by omega)
      · refine Or.inr ⟨by omega, h2, h3, fun p hp => ?_⟩
        by_cases e : p = k
        · subst e
          unfold sp_nb
          omega
        · exact h4 p (by omega)
    · rename_i q
      refine Or.inr ⟨by dsimp only; omega, rfl, by dsimp only; omega, fun p hp => ?_⟩
      dsimp only
      by_cases e : p = k
      · subst e; exact Or.inr ⟨rfl, Or.inr ⟨rfl, Nat.le_refl _⟩⟩
      · rcases ih with ⟨h1, h2, h3⟩ | ⟨h1, h2, h3, h4⟩
        · have := h3 p (by omega)
          unfold sp_nb
          omega
        · have h5 := h4 p (by omega)
          unfold sp_nb at h5 ⊢
          omega
theorem sp_most_rich (g : Nat → Nat) (o fm : Nat) (hf : fm < 16) : (sp_most g o fm 16).1 = sp_rich g o fm 16 := by
  obtain ⟨r1, r2, r3⟩ := sp_rich_nb g o fm 16
  have z : sp_ap fm fm = 0 := sp_ap_0.mpr rfl
  have hr : sp_rich g o fm 16 < 16 := by omega
  rcases sp_most_nb g o fm 16 with ⟨h1, h2, h3⟩ | ⟨h1, h2, h3, h4⟩
  · rw [h1]
    have a1 := h3 _ hr
    have a2 := h3 _ hf
    unfold sp_nb at r2
    have a3 : sp_ap (sp_rich g o fm 16) fm = 0 := by omega
    exact (sp_ap_0.mp a3).symm
  · have a1 := r3 _ h1
    have a2 := h4 _ hr
    unfold sp_nb at a1 a2
    omega
theorem sp_most_lt (g : Nat → Nat) (o fm : Nat) (hf : fm < 16) (k : Nat) (hk : k ≤ 16) : (sp_most g o fm k).1 < 16 := by
  rcases sp_most_nb g o fm k with ⟨h1, -⟩ | ⟨h1, -⟩ <;> omega
/-- an index or none (-4) as an int -/
def jo : Option Nat → Int32
  | none => (-4)
  | some k => nI k
def sp_nr (g : Nat → Nat) (c k : Nat) : Option Nat := if (sp_near g c k).2 = 16 then none else some (sp_near g c k).1
theorem sp_near_ap {g : Nat → Nat} (W : jw g) {c : Nat} (hc : c < 6) : ∀ k, k ≤ 6 → ((sp_near g c k).2 = 16 ∧ (sp_near g c k).1 = c ∧ ∀ p, p < k → p = c) ∨ ((sp_near g c k).2 < 16 ∧ (sp_near g c k).1 < k ∧ (sp_near g c k).2 = sp_ap (g (38 + 5 * (sp_near g c k).1)) (g (38 + 5 * c))) := by
  intro k
  induction k with
  | zero => intro _; exact Or.inl ⟨rfl, rfl, fun p hp => absurd hp (by omega)⟩
  | succ k ih =>
    intro hk
    have h1 := jw_at W (c := k) (by omega)
    have h2 := jw_at W (c := c) hc
    have h3 := sp_ap_lt h1 h2
    unfold sp_near
    split
    · exact Or.inr ⟨h3, by dsimp only; omega, rfl⟩
    · rename_i q
      rcases ih (by omega) with ⟨a1, a2, a3⟩ | ⟨a1, a2, a3⟩
      · refine Or.inl ⟨a1, a2, fun p hp => ?_⟩
        by_cases e : p = k
        · subst e
          rw [a1] at q
          omega
        · exact a3 p (by omega)
      · exact Or.inr ⟨a1, by omega, a3⟩
