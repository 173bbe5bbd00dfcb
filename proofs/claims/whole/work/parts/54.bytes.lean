/-! SHELVES: the elements of a row of sort 0 are bytes. -/
def eb (x : Int32) : Prop := -128 ≤ x.toInt ∧ x.toInt ≤ 127
theorem eb_8 (v : Int8) : eb v.toInt32 := by
  have h1 := Int8.le_toInt v
  have h2 := Int8.toInt_lt v
  unfold eb
  rw [Int8.toInt_toInt32]
  omega
theorem eb_0 : eb (nI 0) := by
  unfold eb
  rw [nI_toInt (by decide)]
  omega
theorem eb_tr (v : Int32) : eb (sp_tr 0 v) := eb_8 _
def ke (s : Nat → Nat → Nat) (e : Nat → Nat → Int32) : Prop := ∀ d, d < 8 → s d 0 = 2 → s d 3 = 0 → ∀ i, i < 100 → eb (e d i)
theorem ke_keep {s : Nat → Nat → Nat} {e : Nat → Nat → Int32} (B : ke s e) (x y z v : Int32) : ke (zs_keep s x y z v) e := by
  unfold zs_keep
  split
  · intro d hd q0 q3
    by_cases q : d = x.toNatClampNeg
    · rw [q, ks_eq] at q0
      exfalso
      unfold kp_t at q0
      split at q0
      · omega
      · rw [if_pos rfl] at q0; omega
    · rw [ks_ne q] at q0 q3
      exact B d hd q0 q3
  · exact B
theorem ke_row {s : Nat → Nat → Nat} {e : Nat → Nat → Int32} (B : ke s e) (x y z : Int32) : ke (zs_row s x y z) (ze_row e x y z) := by
  by_cases c : rw_ok x y z ∧ ¬ z < 0
  · have e1 : zs_row s x y z = ks_put s x.toNatClampNeg (rw_t y z) := if_pos c
    have e2 : ze_row e x y z = ks_put e x.toNatClampNeg (fun _ => nI 0) := if_pos c
    rw [e1, e2]
    intro d hd q0 q3 i hi
    by_cases q : d = x.toNatClampNeg
    · rw [q, ks_eq]; exact eb_0
    · rw [ks_ne q] at q0 q3 ⊢
      exact B d hd q0 q3 i hi
  · have e1 : zs_row s x y z = s := if_neg c
    have e2 : ze_row e x y z = e := if_neg c
    rw [e1, e2]
    exact B
theorem ke_put {s : Nat → Nat → Nat} {e : Nat → Nat → Int32} (B : ke s e) (x y v : Int32) : ke s (ze_put s e x y v) := by
  unfold ze_put
  split
  · intro d hd q0 q3 i hi
    by_cases q : d = x.toNatClampNeg
    · rw [q, ks_eq]
      show eb (if i = y.toNatClampNeg then sp_tr (s x.toNatClampNeg 3) v else e x.toNatClampNeg i)
      split
      · rw [← q, q3]; exact eb_tr v
      · rw [← q]; exact B d hd q0 q3 i hi
    · rw [ks_ne q]
      exact B d hd q0 q3 i hi
  · exact B
theorem ke_copy {s : Nat → Nat → Nat} {e : Nat → Nat → Int32} (B : ke s e) (Y : kw s) (x y z v n : Int32) : ke s (ze_copy s e x y z v n) := by
  unfold ze_copy
  split
  · rename_i c
    obtain ⟨⟨c1, c2⟩, c3, c4, c5, c6⟩ := c
    obtain ⟨a, ha, rfl⟩ := jx_win (by decide) c1
    obtain ⟨b, hb, rfl⟩ := jx_win (by decide) c2
    rw [nI_clamp (by omega), nI_clamp (by omega)] at c4
    rw [nI_clamp (by omega)] at c5 c6
    have za := kw_z Y (d := a) (by omega) c4.1
    have zb := kw_z Y (d := b) (by omega) c4.2.1
    obtain ⟨i, j, m, hi, hj, rfl, rfl, rfl⟩ := cp_nat2 za zb c5.1 c5.2.1 c5.2.2 c6.1 c6.2.2
    intro d hd q0 q3 p hp
    rw [nI_clamp (n := a) (by omega), nI_clamp (n := b) (by omega), nI_clamp (n := i) (by omega), nI_clamp (n := j) (by omega), nI_clamp (n := m) (by omega)]
    by_cases q : d = b
    · subst q
      rw [ks_eq]
      show eb (if j ≤ p ∧ p < j + m then e a (i + (p - j)) else e d p)
      split
      · exact B a (by omega) c4.1 (c4.2.2.trans q3) _ (by omega)
      · exact B d hd q0 q3 p hp
    · rw [ks_ne q]
      exact B d hd q0 q3 p hp
  · exact B
