/-! PURE: what an hour keeps. -/
theorem jw_up_hour {g : Nat → Nat} (W : jw g) {v : Nat} (hv : v < 24) : jw (sp_up g 2 v) := by
  obtain ⟨a0, a1, a2, a3, a4, a5, a6, a7, a8, a9, a10, a11, a12, a13⟩ := W
  refine ⟨?_, ?_, ?_, ?_, ?_, ?_, ?_, ?_, ?_, ?_, ?_, ?_, ?_, ?_⟩
  · rw [sp_up_ne (by omega)]; exact a0
  · rw [sp_up_ne (by omega)]; exact a1
  · rw [sp_up_eq rfl]; omega
  · intro p hp; rw [sp_up_ne (by omega)]; exact a3 p hp
  · intro p hp; rw [sp_up_ne (by omega)]; exact a4 p hp
  · intro p hp; rw [sp_up_ne (by omega)]; exact a5 p hp
  · intro p hp; rw [sp_up_ne (by omega)]; exact a6 p hp
  · intro p hp; rw [sp_up_ne (by omega)]; exact a7 p hp
  · intro p hp; rw [sp_up_ne (by omega)]; exact a8 p hp
  · intro p hp; rw [sp_up_ne (by omega)]; exact a9 p hp
  · intro p hp; rw [sp_up_ne (by omega)]; exact a10 p hp
  · intro p hp; rw [sp_up_ne (by omega)]; exact a11 p hp
  · intro p hp
    rw [sp_up_ne (by omega)] at hp
    have a0 := a0
    rw [sp_up_ne (by omega), sp_up_ne (by omega)]; exact a12 p hp
  · intro p hp hm
    rw [sp_up_ne (by omega)] at hm
    rw [sp_up_ne (by omega)]; exact a13 p hp hm
theorem jw_up_day {g : Nat → Nat} (W : jw g) {v : Nat}  : jw (sp_up g 3 v) := by
  obtain ⟨a0, a1, a2, a3, a4, a5, a6, a7, a8, a9, a10, a11, a12, a13⟩ := W
  refine ⟨?_, ?_, ?_, ?_, ?_, ?_, ?_, ?_, ?_, ?_, ?_, ?_, ?_, ?_⟩
  · rw [sp_up_ne (by omega)]; exact a0
  · rw [sp_up_ne (by omega)]; exact a1
  · rw [sp_up_ne (by omega)]; exact a2
  · intro p hp; rw [sp_up_ne (by omega)]; exact a3 p hp
  · intro p hp; rw [sp_up_ne (by omega)]; exact a4 p hp
  · intro p hp; rw [sp_up_ne (by omega)]; exact a5 p hp
  · intro p hp; rw [sp_up_ne (by omega)]; exact a6 p hp
  · intro p hp; rw [sp_up_ne (by omega)]; exact a7 p hp
  · intro p hp; rw [sp_up_ne (by omega)]; exact a8 p hp
  · intro p hp; rw [sp_up_ne (by omega)]; exact a9 p hp
  · intro p hp; rw [sp_up_ne (by omega)]; exact a10 p hp
  · intro p hp; rw [sp_up_ne (by omega)]; exact a11 p hp
  · intro p hp
    rw [sp_up_ne (by omega)] at hp
    have a0 := a0
    rw [sp_up_ne (by omega), sp_up_ne (by omega)]; exact a12 p hp
  · intro p hp hm
    rw [sp_up_ne (by omega)] at hm
    rw [sp_up_ne (by omega)]; exact a13 p hp hm
theorem jw_up_fish {g : Nat → Nat} (W : jw g) {v c : Nat} (hc : c < 16) (hv : v ≤ 9) : jw (sp_up g (4 + c) v) := by
  obtain ⟨a0, a1, a2, a3, a4, a5, a6, a7, a8, a9, a10, a11, a12, a13⟩ := W
  refine ⟨?_, ?_, ?_, ?_, ?_, ?_, ?_, ?_, ?_, ?_, ?_, ?_, ?_, ?_⟩
  · rw [sp_up_ne (by omega)]; exact a0
  · rw [sp_up_ne (by omega)]; exact a1
  · rw [sp_up_ne (by omega)]; exact a2
  · intro p hp
    by_cases e : p = c
    · rw [sp_up_eq (by omega)]; omega
    · rw [sp_up_ne (by omega)]; exact a3 p hp
  · intro p hp; rw [sp_up_ne (by omega)]; exact a4 p hp
  · intro p hp; rw [sp_up_ne (by omega)]; exact a5 p hp
  · intro p hp; rw [sp_up_ne (by omega)]; exact a6 p hp
  · intro p hp; rw [sp_up_ne (by omega)]; exact a7 p hp
  · intro p hp; rw [sp_up_ne (by omega)]; exact a8 p hp
  · intro p hp; rw [sp_up_ne (by omega)]; exact a9 p hp
  · intro p hp; rw [sp_up_ne (by omega)]; exact a10 p hp
  · intro p hp; rw [sp_up_ne (by omega)]; exact a11 p hp
  · intro p hp
    rw [sp_up_ne (by omega)] at hp
    have a0 := a0
    rw [sp_up_ne (by omega), sp_up_ne (by omega)]; exact a12 p hp
  · intro p hp hm
    rw [sp_up_ne (by omega)] at hm
    rw [sp_up_ne (by omega)]; exact a13 p hp hm
theorem jw_up_mice {g : Nat → Nat} (W : jw g) {v c : Nat} (hc : c < 16) (hv : v ≤ 9) : jw (sp_up g (20 + c) v) := by
  obtain ⟨a0, a1, a2, a3, a4, a5, a6, a7, a8, a9, a10, a11, a12, a13⟩ := W
  refine ⟨?_, ?_, ?_, ?_, ?_, ?_, ?_, ?_, ?_, ?_, ?_, ?_, ?_, ?_⟩
  · rw [sp_up_ne (by omega)]; exact a0
  · rw [sp_up_ne (by omega)]; exact a1
  · rw [sp_up_ne (by omega)]; exact a2
  · intro p hp; rw [sp_up_ne (by omega)]; exact a3 p hp
  · intro p hp
    by_cases e : p = c
    · rw [sp_up_eq (by omega)]; omega
    · rw [sp_up_ne (by omega)]; exact a4 p hp
  · intro p hp; rw [sp_up_ne (by omega)]; exact a5 p hp
  · intro p hp; rw [sp_up_ne (by omega)]; exact a6 p hp
  · intro p hp; rw [sp_up_ne (by omega)]; exact a7 p hp
  · intro p hp; rw [sp_up_ne (by omega)]; exact a8 p hp
  · intro p hp; rw [sp_up_ne (by omega)]; exact a9 p hp
  · intro p hp; rw [sp_up_ne (by omega)]; exact a10 p hp
  · intro p hp; rw [sp_up_ne (by omega)]; exact a11 p hp
  · intro p hp
    rw [sp_up_ne (by omega)] at hp
    have a0 := a0
    rw [sp_up_ne (by omega), sp_up_ne (by omega)]; exact a12 p hp
  · intro p hp hm
    rw [sp_up_ne (by omega)] at hm
    rw [sp_up_ne (by omega)]; exact a13 p hp hm
theorem jw_up_kind {g : Nat → Nat} (W : jw g) {v c : Nat} (hc : c < 6) (hv : v < 8) : jw (sp_up g (36 + 5 * c) v) := by
  obtain ⟨a0, a1, a2, a3, a4, a5, a6, a7, a8, a9, a10, a11, a12, a13⟩ := W
  refine ⟨?_, ?_, ?_, ?_, ?_, ?_, ?_, ?_, ?_, ?_, ?_, ?_, ?_, ?_⟩
  · rw [sp_up_ne (by omega)]; exact a0
  · rw [sp_up_ne (by omega)]; exact a1
  · rw [sp_up_ne (by omega)]; exact a2
  · intro p hp; rw [sp_up_ne (by omega)]; exact a3 p hp
  · intro p hp; rw [sp_up_ne (by omega)]; exact a4 p hp
  · intro p hp
    by_cases e : p = c
    · rw [sp_up_eq (by omega)]; omega
    · rw [sp_up_ne (by omega)]; exact a5 p hp
  · intro p hp; rw [sp_up_ne (by omega)]; exact a6 p hp
  · intro p hp; rw [sp_up_ne (by omega)]; exact a7 p hp
  · intro p hp; rw [sp_up_ne (by omega)]; exact a8 p hp
  · intro p hp; rw [sp_up_ne (by omega)]; exact a9 p hp
  · intro p hp; rw [sp_up_ne (by omega)]; exact a10 p hp
  · intro p hp; rw [sp_up_ne (by omega)]; exact a11 p hp
  · intro p hp
    rw [sp_up_ne (by omega)] at hp
    have a0 := a0
    rw [sp_up_ne (by omega), sp_up_ne (by omega)]; exact a12 p hp
  · intro p hp hm
    rw [sp_up_ne (by omega)] at hm
    rw [sp_up_ne (by omega)]; exact a13 p hp hm
theorem jw_up_fig {g : Nat → Nat} (W : jw g) {v c : Nat} (hc : c < 6) (hv : v < 10) : jw (sp_up g (37 + 5 * c) v) := by
  obtain ⟨a0, a1, a2, a3, a4, a5, a6, a7, a8, a9, a10, a11, a12, a13⟩ := W
  refine ⟨?_, ?_, ?_, ?_, ?_, ?_, ?_, ?_, ?_, ?_, ?_, ?_, ?_, ?_⟩
  · rw [sp_up_ne (by omega)]; exact a0
  · rw [sp_up_ne (by omega)]; exact a1
  · rw [sp_up_ne (by omega)]; exact a2
  · intro p hp; rw [sp_up_ne (by omega)]; exact a3 p hp
  · intro p hp; rw [sp_up_ne (by omega)]; exact a4 p hp
  · intro p hp; rw [sp_up_ne (by omega)]; exact a5 p hp
  · intro p hp
    by_cases e : p = c
    · rw [sp_up_eq (by omega)]; omega
    · rw [sp_up_ne (by omega)]; exact a6 p hp
  · intro p hp; rw [sp_up_ne (by omega)]; exact a7 p hp
  · intro p hp; rw [sp_up_ne (by omega)]; exact a8 p hp
  · intro p hp; rw [sp_up_ne (by omega)]; exact a9 p hp
  · intro p hp; rw [sp_up_ne (by omega)]; exact a10 p hp
  · intro p hp; rw [sp_up_ne (by omega)]; exact a11 p hp
  · intro p hp
    rw [sp_up_ne (by omega)] at hp
    have a0 := a0
    rw [sp_up_ne (by omega), sp_up_ne (by omega)]; exact a12 p hp
  · intro p hp hm
    rw [sp_up_ne (by omega)] at hm
    rw [sp_up_ne (by omega)]; exact a13 p hp hm
theorem jw_up_at {g : Nat → Nat} (W : jw g) {v c : Nat} (hc : c < 6) (hv : v < 16) : jw (sp_up g (38 + 5 * c) v) := by
  obtain ⟨a0, a1, a2, a3, a4, a5, a6, a7, a8, a9, a10, a11, a12, a13⟩ := W
  refine ⟨?_, ?_, ?_, ?_, ?_, ?_, ?_, ?_, ?_, ?_, ?_, ?_, ?_, ?_⟩
  · rw [sp_up_ne (by omega)]; exact a0
  · rw [sp_up_ne (by omega)]; exact a1
  · rw [sp_up_ne (by omega)]; exact a2
  · intro p hp; rw [sp_up_ne (by omega)]; exact a3 p hp
  · intro p hp; rw [sp_up_ne (by omega)]; exact a4 p hp
  · intro p hp; rw [sp_up_ne (by omega)]; exact a5 p hp
  · intro p hp; rw [sp_up_ne (by omega)]; exact a6 p hp
  · intro p hp
    by_cases e : p = c
    · rw [sp_up_eq (by omega)]; omega
    · rw [sp_up_ne (by omega)]; exact a7 p hp
  · intro p hp; rw [sp_up_ne (by omega)]; exact a8 p hp
  · intro p hp; rw [sp_up_ne (by omega)]; exact a9 p hp
  · intro p hp; rw [sp_up_ne (by omega)]; exact a10 p hp
  · intro p hp; rw [sp_up_ne (by omega)]; exact a11 p hp
  · intro p hp
    rw [sp_up_ne (by omega)] at hp
    have a0 := a0
    rw [sp_up_ne (by omega), sp_up_ne (by omega)]; exact a12 p hp
  · intro p hp hm
    rw [sp_up_ne (by omega)] at hm
    rw [sp_up_ne (by omega)]; exact a13 p hp hm
theorem jw_up_hair {g : Nat → Nat} (W : jw g) {v c : Nat} (hc : c < 6) (hv : v ≤ 99) : jw (sp_up g (39 + 5 * c) v) := by
  obtain ⟨a0, a1, a2, a3, a4, a5, a6, a7, a8, a9, a10, a11, a12, a13⟩ := W
  refine ⟨?_, ?_, ?_, ?_, ?_, ?_, ?_, ?_, ?_, ?_, ?_, ?_, ?_, ?_⟩
  · rw [sp_up_ne (by omega)]; exact a0
  · rw [sp_up_ne (by omega)]; exact a1
  · rw [sp_up_ne (by omega)]; exact a2
  · intro p hp; rw [sp_up_ne (by omega)]; exact a3 p hp
  · intro p hp; rw [sp_up_ne (by omega)]; exact a4 p hp
  · intro p hp; rw [sp_up_ne (by omega)]; exact a5 p hp
  · intro p hp; rw [sp_up_ne (by omega)]; exact a6 p hp
  · intro p hp; rw [sp_up_ne (by omega)]; exact a7 p hp
  · intro p hp
    by_cases e : p = c
    · rw [sp_up_eq (by omega)]; omega
    · rw [sp_up_ne (by omega)]; exact a8 p hp
  · intro p hp; rw [sp_up_ne (by omega)]; exact a9 p hp
  · intro p hp; rw [sp_up_ne (by omega)]; exact a10 p hp
  · intro p hp; rw [sp_up_ne (by omega)]; exact a11 p hp
  · intro p hp
    rw [sp_up_ne (by omega)] at hp
    have a0 := a0
    rw [sp_up_ne (by omega), sp_up_ne (by omega)]; exact a12 p hp
  · intro p hp hm
    rw [sp_up_ne (by omega)] at hm
    rw [sp_up_ne (by omega)]; exact a13 p hp hm
theorem jw_up_name {g : Nat → Nat} (W : jw g) {v c : Nat} (hc : c < 6) (hv : v = 9 ∨ v < g 1) : jw (sp_up g (40 + 5 * c) v) := by
  obtain ⟨a0, a1, a2, a3, a4, a5, a6, a7, a8, a9, a10, a11, a12, a13⟩ := W
  refine ⟨?_, ?_, ?_, ?_, ?_, ?_, ?_, ?_, ?_, ?_, ?_, ?_, ?_, ?_⟩
  · rw [sp_up_ne (by omega)]; exact a0
  · rw [sp_up_ne (by omega)]; exact a1
  · rw [sp_up_ne (by omega)]; exact a2
  · intro p hp; rw [sp_up_ne (by omega)]; exact a3 p hp
  · intro p hp; rw [sp_up_ne (by omega)]; exact a4 p hp
  · intro p hp; rw [sp_up_ne (by omega)]; exact a5 p hp
  · intro p hp; rw [sp_up_ne (by omega)]; exact a6 p hp
  · intro p hp; rw [sp_up_ne (by omega)]; exact a7 p hp
  · intro p hp; rw [sp_up_ne (by omega)]; exact a8 p hp
  · intro p hp
    by_cases e : p = c
    · rw [sp_up_eq (by omega)]; omega
    · rw [sp_up_ne (by omega)]; exact a9 p hp
  · intro p hp; rw [sp_up_ne (by omega)]; exact a10 p hp
  · intro p hp; rw [sp_up_ne (by omega)]; exact a11 p hp
  · intro p hp
    rw [sp_up_ne (by omega)] at hp
    have a0 := a0
    by_cases e : p = c
    · rw [sp_up_eq (by omega), sp_up_ne (by omega)]; omega
    · rw [sp_up_ne (by omega), sp_up_ne (by omega)]; exact a12 p hp
  · intro p hp hm
    rw [sp_up_ne (by omega)] at hm
    rw [sp_up_ne (by omega)]; exact a13 p hp hm
theorem jw_up_side {g : Nat → Nat} (W : jw g) {v c : Nat} (hc : c < 6) (hv : v ≤ 1) : jw (sp_up g (66 + 2 * c) v) := by
  obtain ⟨a0, a1, a2, a3, a4, a5, a6, a7, a8, a9, a10, a11, a12, a13⟩ := W
  refine ⟨?_, ?_, ?_, ?_, ?_, ?_, ?_, ?_, ?_, ?_, ?_, ?_, ?_, ?_⟩
  · rw [sp_up_ne (by omega)]; exact a0
  · rw [sp_up_ne (by omega)]; exact a1
  · rw [sp_up_ne (by omega)]; exact a2
  · intro p hp; rw [sp_up_ne (by omega)]; exact a3 p hp
  · intro p hp; rw [sp_up_ne (by omega)]; exact a4 p hp
  · intro p hp; rw [sp_up_ne (by omega)]; exact a5 p hp
  · intro p hp; rw [sp_up_ne (by omega)]; exact a6 p hp
  · intro p hp; rw [sp_up_ne (by omega)]; exact a7 p hp
  · intro p hp; rw [sp_up_ne (by omega)]; exact a8 p hp
  · intro p hp; rw [sp_up_ne (by omega)]; exact a9 p hp
  · intro p hp
    by_cases e : p = c
    · rw [sp_up_eq (by omega)]; omega
    · rw [sp_up_ne (by omega)]; exact a10 p hp
  · intro p hp; rw [sp_up_ne (by omega)]; exact a11 p hp
  · intro p hp
    rw [sp_up_ne (by omega)] at hp
    have a0 := a0
    rw [sp_up_ne (by omega), sp_up_ne (by omega)]; exact a12 p hp
  · intro p hp hm
    rw [sp_up_ne (by omega)] at hm
    rw [sp_up_ne (by omega)]; exact a13 p hp hm
theorem jw_up_pas {g : Nat → Nat} (W : jw g) {v c : Nat} (hc : c < 6) (hv : v ≤ 1 ∧ c < g 1) : jw (sp_up g (67 + 2 * c) v) := by
  obtain ⟨a0, a1, a2, a3, a4, a5, a6, a7, a8, a9, a10, a11, a12, a13⟩ := W
  refine ⟨?_, ?_, ?_, ?_, ?_, ?_, ?_, ?_, ?_, ?_, ?_, ?_, ?_, ?_⟩
  · rw [sp_up_ne (by omega)]; exact a0
  · rw [sp_up_ne (by omega)]; exact a1
  · rw [sp_up_ne (by omega)]; exact a2
  · intro p hp; rw [sp_up_ne (by omega)]; exact a3 p hp
  · intro p hp; rw [sp_up_ne (by omega)]; exact a4 p hp
  · intro p hp; rw [sp_up_ne (by omega)]; exact a5 p hp
  · intro p hp; rw [sp_up_ne (by omega)]; exact a6 p hp
  · intro p hp; rw [sp_up_ne (by omega)]; exact a7 p hp
  · intro p hp; rw [sp_up_ne (by omega)]; exact a8 p hp
  · intro p hp; rw [sp_up_ne (by omega)]; exact a9 p hp
  · intro p hp; rw [sp_up_ne (by omega)]; exact a10 p hp
  · intro p hp
    by_cases e : p = c
    · rw [sp_up_eq (by omega)]; omega
    · rw [sp_up_ne (by omega)]; exact a11 p hp
  · intro p hp
    rw [sp_up_ne (by omega)] at hp
    have a0 := a0
    rw [sp_up_ne (by omega), sp_up_ne (by omega)]; exact a12 p hp
  · intro p hp hm
    rw [sp_up_ne (by omega)] at hm
    by_cases e : p = c
    · rw [sp_up_eq (by omega)]; omega
    · rw [sp_up_ne (by omega)]; exact a13 p hp hm
theorem sp_rich_lt (g : Nat → Nat) (o fm : Nat) (hf : fm < 16) : ∀ k, k ≤ 16 → sp_rich g o fm k < 16 := by
  intro k
  induction k with
  | zero => intro _; exact hf
  | succ k ih =>
    intro hk
    unfold sp_rich
    split
    · omega
    · exact ih (by omega)
theorem sp_near_lt (g : Nat → Nat) (c n : Nat) (hc : c < n) : ∀ k, k ≤ n → (sp_near g c k).1 < n ∧ (sp_near g c k).2 ≤ 16 := by
  intro k
  induction k with
  | zero => intro _; exact ⟨hc, Nat.le_refl _⟩
  | succ k ih =>
    intro hk
    have := ih (by omega)
    unfold sp_near
    split
    · rename_i q; exact ⟨by omega, by dsimp only; omega⟩
    · exact this
theorem sp_goalK_lt {g : Nat → Nat} (W : jw g) {c : Nat} (hc : c < g 0) (k : Nat) : sp_goalK g c k < 16 := by
  have hn := jw_n W
  have ha := jw_at W (c := c) (by omega)
  have hr4 := sp_rich_lt g 4 (g (38 + 5 * c)) ha 16 (Nat.le_refl _)
  have hr20 := sp_rich_lt g 20 (g (38 + 5 * c)) ha 16 (Nat.le_refl _)
  have hne := (sp_near_lt g c (g 0) hc (g 0) (Nat.le_refl _)).1
  have hnb := jw_at W (c := (sp_near g c (g 0)).1) (by omega)
  unfold sp_goalK
  split <;> first | assumption | (split <;> omega)
theorem sp_pace_le {k f t : Nat} (hf : f < 10) : sp_pace k f t ≤ 8 := by
  have : f / 4 ≤ 2 := by omega
  unfold sp_pace
  split <;> first | omega | (split <;> omega)
theorem sp_grow_le (k : Nat) : sp_grow k ≤ 2 := by
  unfold sp_grow
  split <;> omega
theorem sp_to_lt {a b p : Nat} (ha : a < 16) (hb : b < 16) : sp_to a b p < 16 := by
  unfold sp_to
  split <;> omega
theorem sp_toc_lt {g : Nat → Nat} (W : jw g) {c : Nat} (hc : c < g 0) : sp_toc g c < 16 := sp_to_lt (jw_at W (by have := jw_n W; omega)) (sp_goalK_lt W hc _)
theorem jw_eat {g : Nat → Nat} (W : jw g) {p : Nat} (hp : p < 16) : jw (sp_eat g p) := by
  unfold sp_eat
  split
  · exact jw_up_fish W hp (by have := jw_fish W hp; omega)
  · exact W
theorem jw_move {g : Nat → Nat} (W : jw g) {c : Nat} (hc : c < g 0) : jw (sp_move g c) := by
  have hn := jw_n W
  unfold sp_move
  split
  · exact W
  · exact jw_eat (jw_up_at W (by omega) (sp_toc_lt W hc)) (sp_toc_lt W hc)
theorem sp_eat_ne {g : Nat → Nat} {p i : Nat} (h : i ≠ 4 + p) : sp_eat g p i = g i := by
  unfold sp_eat
  split
  · exact sp_up_ne h
  · rfl
theorem sp_move_ne {g : Nat → Nat} {c i : Nat} (h1 : i ≠ 4 + sp_toc g c) (h2 : i ≠ 38 + 5 * c) : sp_move g c i = g i := by
  unfold sp_move
  split
  · rfl
  · rw [sp_eat_ne h1, sp_up_ne h2]
theorem sp_move_at {g : Nat → Nat} (W : jw g) {c : Nat} (hc : c < g 0) : sp_move g c (38 + 5 * c) = sp_toc g c := by
  have := sp_toc_lt W hc
  unfold sp_move
  split
  · rename_i q; exact q.symm
  · rw [sp_eat_ne (by omega), sp_up_eq rfl]
theorem jw_hairs {g : Nat → Nat} (W : jw g) {c : Nat} (hc : c < g 0) : jw (sp_hair g c) := by
  have hn := jw_n W
  exact jw_up_hair W (by omega) (by omega)
theorem sp_gone_ne {g : Nat → Nat} (W : jw g) {c : Nat} (hc : c < g 0) {kept : Bool} {i : Nat} (h : ¬ (4 ≤ i ∧ i < 20)) (h2 : i ≠ 38 + 5 * c) (h3 : i ≠ 39 + 5 * c) : sp_gone g c kept i = g i := by
  have := sp_toc_lt W hc
  unfold sp_gone sp_hair
  rw [sp_up_ne h3]
  cases kept
  · exact sp_move_ne (by omega) h2
  · rfl
theorem sp_gone_at {g : Nat → Nat} (W : jw g) {c : Nat} (hc : c < g 0) : sp_gone g c false (38 + 5 * c) = sp_toc g c := by
  unfold sp_gone sp_hair
  rw [sp_up_ne (by omega)]
  exact sp_move_at W hc
theorem sp_gone_atk {g : Nat → Nat} {c : Nat} : sp_gone g c true (38 + 5 * c) = g (38 + 5 * c) := by
  unfold sp_gone sp_hair
  rw [sp_up_ne (by omega)]
  rfl
theorem sp_gone_hair {g : Nat → Nat} (W : jw g) {c : Nat} (hc : c < g 0) {kept : Bool} : sp_gone g c kept (39 + 5 * c) = min 99 (g (39 + 5 * c) + sp_grow (g (36 + 5 * c))) := by
  have := sp_toc_lt W hc
  unfold sp_gone sp_hair
  rw [sp_up_eq rfl]
  cases kept
  · show min 99 (sp_move g c (39 + 5 * c) + sp_grow (sp_move g c (36 + 5 * c))) = _
    rw [sp_move_ne (by omega) (by omega), sp_move_ne (by omega) (by omega)]
  · rfl
theorem jw_gone {g : Nat → Nat} (W : jw g) {c : Nat} (hc : c < g 0) {kept : Bool} : jw (sp_gone g c kept) := by
  have := sp_toc_lt W hc
  unfold sp_gone
  cases kept
  · exact jw_hairs (jw_move W hc) (by show c < sp_move g c 0; rw [sp_move_ne (by omega) (by omega)]; exact hc)
  · exact jw_hairs W hc
theorem jw_pass {g : Nat → Nat} (W : jw g) {c fm : Nat} (hc : c < g 0) : jw (sp_pass g c fm) := by
  have hn := jw_n W
  have hm := jw_m W
  unfold sp_pass
  split
  · rename_i q
    have hnm : g (40 + 5 * c) < g 1 := by
      rcases jw_nm W hc with z | z
      · exact absurd z q.1.1
      · exact z
    exact jw_up_side (jw_up_pas W (by omega) ⟨by omega, hnm⟩) (by omega) (by omega)
  · exact W
theorem sp_pass_ne {g : Nat → Nat} (W : jw g) {c fm i : Nat} (hc : c < g 0) (hi : i < 66) : sp_pass g c fm i = g i := by
  unfold sp_pass
  split
  · rw [sp_up_ne (by omega), sp_up_ne (by omega)]
  · rfl
theorem jw_one {g : Nat → Nat} (W : jw g) {c : Nat} (hc : c < g 0) {kept : Bool} : jw (sp_one g c kept) := by
  have hn := jw_n W
  have h0 : sp_gone g c kept 0 = g 0 := sp_gone_ne W hc (by omega) (by omega) (by omega)
  unfold sp_one
  split
  · exact jw_pass (jw_gone W hc) (by rw [h0]; exact hc)
  · exact jw_gone W hc
theorem sp_one_ne {g : Nat → Nat} (W : jw g) {c i : Nat} (hc : c < g 0) {kept : Bool} (h : ¬ (4 ≤ i ∧ i < 20)) (h2 : i ≠ 38 + 5 * c) (h3 : i ≠ 39 + 5 * c) (hi : i < 66) : sp_one g c kept i = g i := by
  have h0 : sp_gone g c kept 0 = g 0 := sp_gone_ne W hc (by omega) (by omega) (by omega)
  unfold sp_one
  split
  · rw [sp_pass_ne (jw_gone W hc) (by rw [h0]; exact hc) hi]; exact sp_gone_ne W hc h h2 h3
  · exact sp_gone_ne W hc h h2 h3
theorem jw_cats {g : Nat → Nat} (W : jw g) {kept : Bool} : ∀ c, c ≤ g 0 → jw (sp_cats g kept c).1 ∧ (∀ i, i < 4 → (sp_cats g kept c).1 i = g i) ∧ (sp_cats g kept c).2 < 2 ^ c := by
  intro c
  induction c with
  | zero => intro _; exact ⟨W, fun _ _ => rfl, Nat.one_pos⟩
  | succ c ih =>
    intro hc
    obtain ⟨h1, h2, h3⟩ := ih (by omega)
    have h0 : (sp_cats g kept c).1 0 = g 0 := h2 0 (by decide)
    have hc2 : c < (sp_cats g kept c).1 0 := by omega
    refine ⟨jw_one h1 hc2, fun i hi => ?_, ?_⟩
    · show sp_one (sp_cats g kept c).1 c kept i = g i
      rw [sp_one_ne h1 hc2 (by omega) (by omega) (by omega) (by omega)]
      exact h2 i hi
    · show (if _ then _ else _) < 2 ^ (c + 1)
      rw [Nat.pow_succ]
      have h4 : (sp_cats g kept c).2 + 2 ^ c < 2 ^ c * 2 := by omega
      have h5 : (sp_cats g kept c).2 < 2 ^ c * 2 := by omega
      split
      · exact h4
      · exact h5
theorem jw_clock {g : Nat → Nat} (W : jw g) : jw (sp_clock g) := by
  have := jw_t W
  unfold sp_clock
  split
  · exact jw_up_day (jw_up_hour W (by omega))
  · exact jw_up_hour W (by omega)
theorem sp_clock_ne {g : Nat → Nat} {i : Nat} (h2 : i ≠ 2) (h3 : i ≠ 3) : sp_clock g i = g i := by
  unfold sp_clock
  split
  · rw [sp_up_ne h3, sp_up_ne h2]
  · rw [sp_up_ne h2]
theorem jw_hour {g : Nat → Nat} (W : jw g) {kept : Bool} : jw (sp_hour g kept) := jw_clock (jw_cats W (g 0) (Nat.le_refl _)).1
theorem sp_hour_0 {g : Nat → Nat} (W : jw g) {kept : Bool} : sp_hour g kept 0 = g 0 := (sp_clock_ne (by decide) (by decide)).trans ((jw_cats W (g 0) (Nat.le_refl _)).2.1 0 (by decide))
theorem sp_hour_1 {g : Nat → Nat} (W : jw g) {kept : Bool} : sp_hour g kept 1 = g 1 := (sp_clock_ne (by decide) (by decide)).trans ((jw_cats W (g 0) (Nat.le_refl _)).2.1 1 (by decide))
theorem sp_set_lt {g : Nat → Nat} (W : jw g) {kept : Bool} : sp_set g kept < 64 := by
  have h1 := (jw_cats W (kept := kept) (g 0) (Nat.le_refl _)).2.2
  have h2 : 2 ^ g 0 ≤ 2 ^ 6 := Nat.pow_le_pow_right (by decide) (jw_n W)
  unfold sp_set
  omega
/-- n hours on -/
def sp_it (g : Nat → Nat) : Nat → Nat → Nat
  | 0 => g
  | n + 1 => sp_hour (sp_it g n) false
theorem jw_it {g : Nat → Nat} (W : jw g) : ∀ n, jw (sp_it g n) ∧ sp_it g n 0 = g 0 ∧ sp_it g n 1 = g 1 := by
  intro n
  induction n with
  | zero => exact ⟨W, rfl, rfl⟩
  | succ n ih => exact ⟨jw_hour ih.1, (sp_hour_0 ih.1).trans ih.2.1, (sp_hour_1 ih.1).trans ih.2.2⟩
