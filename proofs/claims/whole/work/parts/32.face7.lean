/-! THE FACE: fractions: mean, dogs. -/
theorem jl_int {n : Nat} (h : n < 2 ^ 62) : (lN n).toInt = (n : Int) := Int64.toInt_ofNat_of_lt (by omega)
theorem jl_cmp {a b : Nat} (ha : a < 2 ^ 62) (hb : b < 2 ^ 62) : lg_cmp (lN a) (lN b) = 0 ↔ a = b := by
  rw [lg_cmp_eq, ← Int64.toInt_inj, jl_int ha, jl_int hb]
  omega
theorem jl_div {a b : Nat} (ha : a < 2 ^ 62) (hb : b < 2 ^ 62) : lN a / lN b = lN (a / b) := by
  have hq : a / b < 2 ^ 62 := Nat.lt_of_le_of_lt (Nat.div_le_self _ _) ha
  apply Int64.toInt_inj.mp
  rw [Int64.toInt_div, jl_int ha, jl_int hb, jl_int hq, ← Int.ofNat_tdiv]
  generalize a / b = q at hq ⊢
  exact Int.bmod_eq_of_le (by omega) (by omega)
theorem jl_rem {a b : Nat} (ha : a < 2 ^ 62) (hb : b < 2 ^ 62) : lN a - lN a / lN b * lN b = lN (a % b) := by
  rw [jl_div ha hb, lN_mul, lN_sub (Nat.div_mul_le_self a b)]
  congr 1
  have := Nat.div_add_mod a b
  rw [Nat.mul_comm] at this
  omega
theorem jl_ne0 {b : Nat} (hb : b < 2 ^ 62) (h : ¬ b = 0) : ¬ lN b = lN 0 := by
  intro z
  have h1 := jl_int hb
  rw [z, jl_int (by decide)] at h1
  omega
theorem jl_gcd {x y : Nat} : Nat.gcd x y = Nat.gcd y (x % y) := by
  rw [Nat.gcd_comm x y, Nat.gcd_rec y x, Nat.gcd_comm]
theorem jl_gcd_lt {x y : Nat} (hx : x < 2 ^ 62) (hy : y < 2 ^ 62) : Nat.gcd x y < 2 ^ 62 := by
  rcases Nat.eq_zero_or_pos y with e | e
  · rw [e, Nat.gcd_zero_right]; exact hx
  · exact Nat.lt_of_le_of_lt (Nat.gcd_le_right x e) hy
/-- Euclid's steps that are left at step k of a hundred are enough -/
def sp_eu (k x y : Nat) : Prop := ∃ d, (y < 2 ^ d ∧ 2 * d ≤ 100 - k) ∨ (x < 2 ^ d ∧ y < x ∧ 2 * d ≤ 100 - k + 1)
theorem sp_eu_step {k x y : Nat} (hk : k < 100) (hy : ¬ y = 0) (h : sp_eu k x y) : sp_eu (k + 1) y (x % y) := by
  have hr : x % y < y := Nat.mod_lt _ (by omega)
  obtain ⟨d, ⟨h1, h2⟩ | ⟨h1, h2, h3⟩⟩ := h
  · exact ⟨d, Or.inr ⟨h1, hr, by omega⟩⟩
  · cases d with
    | zero => simp at h1; omega
    | succ d =>
      refine ⟨d, Or.inl ⟨?_, by omega⟩⟩
      have h4 := Nat.div_add_mod x y
      have h5 : 1 ≤ x / y := (Nat.one_le_div_iff (by omega)).mpr (by omega)
      have h6 : y * 1 ≤ y * (x / y) := Nat.mul_le_mul_left _ h5
      rw [Nat.pow_succ] at h1
      omega
theorem sp_eu_end {x y : Nat} (h : sp_eu 100 x y) : y = 0 := by
  obtain ⟨d, ⟨h1, h2⟩ | ⟨h1, h2, h3⟩⟩ := h
  · have : d = 0 := by omega
    subst this; simp at h1; exact h1
  · have : d = 0 := by omega
    subst this; simp at h1; omega
set_option maxHeartbeats 4000000 in
set_option maxRecDepth 20000 in
theorem ca_gcd_l {h : jm_M} {A B : Nat} : ∀ k, k ≤ 100 → ∀ x y : Nat, x < 2 ^ 62 → y < 2 ^ 62 → sp_eu k x y → jt_T 117 (9, [(0, .inr (.inl (lN A))), (2, .inr (.inl (lN B))), (4, .inr (.inl (lN x))), (6, .inr (.inl (lN y))), (8, .inl (nI k))], [], h) (fun u h' => u = some (.inr (.inl (lN (Nat.gcd x y)))) ∧ h' = h) := jx_up (P := fun k => ∀ x y : Nat, x < 2 ^ 62 → y < 2 ^ 62 → sp_eu k x y → jt_T 117 (9, [(0, .inr (.inl (lN A))), (2, .inr (.inl (lN B))), (4, .inr (.inl (lN x))), (6, .inr (.inl (lN y))), (8, .inl (nI k))], [], h) (fun u h' => u = some (.inr (.inl (lN (Nat.gcd x y)))) ∧ h' = h)) (fun k hk nx x y hx hy he => by
  refine jt_go jm_m117 6 2 (f' := (13, [(0, .inr (.inl (lN A))), (2, .inr (.inl (lN B))), (4, .inr (.inl (lN x))), (6, .inr (.inl (lN y))), (8, .inl (nI k))], [.inl (nI 100), .inl (nI k)], h)) (P := True) rfl trivial ?_
  refine jt_nicge jm_m117 8 (a := k) (b := 100) (by omega) (by omega) (tgt := 44) (nxt := 16) rfl rfl rfl (fun c13 => ?_) (fun c13 => ?_)
  · refine jt_go jm_m117 23 1 (f' := (46, [(0, .inr (.inl (lN A))), (2, .inr (.inl (lN B))), (4, .inr (.inl (lN x))), (6, .inr (.inl (lN y))), (8, .inl (nI k))], [.inr (.inl (lN x))], h)) (P := True) rfl trivial ?_
    refine jt_lret jm_m117 24 rfl ?_
    have e : k = 100 := by omega
    subst e
    have e0 := sp_eu_end he
    subst e0
    exact ⟨by rw [Nat.gcd_zero_right], rfl⟩
  · refine jt_go jm_m117 9 3 (f' := (20, [(0, .inr (.inl (lN A))), (2, .inr (.inl (lN B))), (4, .inr (.inl (lN x))), (6, .inr (.inl (lN y))), (8, .inl (nI k))], [.inl (lg_cmp (lN y) (lN 0))], h)) (P := True) rfl trivial ?_
    refine jt_ifeq jm_m117 12 (tgt := 44) (nxt := 23) rfl rfl rfl (fun c20 => ?_) (fun c20 => ?_)
    · have c20 : y = 0 := (jl_cmp (by omega) (by omega)).mp c20
      refine jt_go jm_m117 23 1 (f' := (46, [(0, .inr (.inl (lN A))), (2, .inr (.inl (lN B))), (4, .inr (.inl (lN x))), (6, .inr (.inl (lN y))), (8, .inl (nI k))], [.inr (.inl (lN x))], h)) (P := True) rfl trivial ?_
      refine jt_lret jm_m117 24 rfl ?_
      subst c20
      exact ⟨by rw [Nat.gcd_zero_right], rfl⟩
    · have c20 : ¬ y = 0 := fun z => c20 ((jl_cmp (by omega) (by omega)).mpr z)
      refine jt_go jm_m117 13 3 (f' := (28, [(0, .inr (.inl (lN A))), (2, .inr (.inl (lN B))), (4, .inr (.inl (lN x))), (6, .inr (.inl (lN y))), (8, .inl (nI k))], [.inr (.inl ((lN x) - (lN x) / (lN y) * (lN y)))], h)) (P := ¬ (lN y) = 0 ∧ True) rfl ⟨(jl_ne0 (by omega) c20), trivial⟩ ?_
      refine jt_tl (show ((lN x) - (lN x) / (lN y) * (lN y)) = lN (x % y) from jl_rem (by omega) (by omega)) ?_
      refine jt_go jm_m117 16 5 (f' := (38, [(6, .inr (.inl (lN (x % y)))), (4, .inr (.inl (lN y))), (9, .inr (.inl (lN (x % y)))), (0, .inr (.inl (lN A))), (2, .inr (.inl (lN B))), (8, .inl (nI k))], [], h)) (P := True) rfl trivial ?_
      refine jt_inc jm_m117 21 (c := k) (L' := [(8, .inl (nI (k + 1))), (6, .inr (.inl (lN (x % y)))), (4, .inr (.inl (lN y))), (9, .inr (.inl (lN (x % y)))), (0, .inr (.inl (lN A))), (2, .inr (.inl (lN B)))]) rfl rfl rfl rfl ?_
      refine jt_go jm_m117 22 1 (f' := (9, [(8, .inl (nI (k + 1))), (6, .inr (.inl (lN (x % y)))), (4, .inr (.inl (lN y))), (9, .inr (.inl (lN (x % y)))), (0, .inr (.inl (lN A))), (2, .inr (.inl (lN B)))], [], h)) (P := True) rfl trivial ?_
      refine jt_pick (L' := [(0, .inr (.inl (lN A))), (2, .inr (.inl (lN B))), (4, .inr (.inl (lN y))), (6, .inr (.inl (lN (x % y)))), (8, .inl (nI (k + 1)))]) [4, 5, 2, 1, 0] rfl ?_
      have hg : Nat.gcd x y = Nat.gcd y (x % y) := jl_gcd
      rw [hg]
      have hr : x % y < y := Nat.mod_lt _ (by omega)
      exact nx c13 y (x % y) hy (by omega) (sp_eu_step c13 c20 he))
set_option maxHeartbeats 4000000 in
set_option maxRecDepth 20000 in
theorem ca_gcd {h : jm_M} {x y : Nat} (hx : x < 2 ^ 62) (hy : y < 2 ^ 31) : jt_T 117 (0, [(0, .inr (.inl (lN x))), (2, .inr (.inl (lN y)))], [], h) (fun u h' => u = some (.inr (.inl (lN (Nat.gcd x y)))) ∧ h' = h) := by
  refine jt_go jm_m117 0 6 (f' := (9, [(8, .inl (nI 0)), (6, .inr (.inl (lN y))), (4, .inr (.inl (lN x))), (0, .inr (.inl (lN x))), (2, .inr (.inl (lN y)))], [], h)) (P := True) rfl trivial ?_
  refine jt_pick (L' := [(0, .inr (.inl (lN x))), (2, .inr (.inl (lN y))), (4, .inr (.inl (lN x))), (6, .inr (.inl (lN y))), (8, .inl (nI 0))]) [3, 4, 2, 1, 0] rfl ?_
  exact ca_gcd_l 0 (Nat.zero_le _) x y hx (by omega) ⟨31, Or.inl ⟨hy, by decide⟩⟩
set_option maxHeartbeats 4000000 in
set_option maxRecDepth 20000 in
theorem cb_gcd_l {h : jm_M} {A B : Nat} : ∀ y : Nat, ∀ x : Nat, x < 2 ^ 62 → y < 2 ^ 62 → jt_T 215 (6, [(0, .inr (.inl (lN A))), (2, .inr (.inl (lN B))), (4, .inr (.inl (lN x))), (6, .inr (.inl (lN y)))], [], h) (fun u h' => u = some (.inr (.inl (lN (Nat.gcd x y)))) ∧ h' = h) := by
  intro y
  induction y using Nat.strongRecOn with
  | _ y ih =>
    intro x hx hy
    refine jt_go jm_m215 4 3 (f' := (10, [(0, .inr (.inl (lN A))), (2, .inr (.inl (lN B))), (4, .inr (.inl (lN x))), (6, .inr (.inl (lN y)))], [.inl (lg_cmp (lN y) (lN 0))], h)) (P := True) rfl trivial ?_
    refine jt_ifeq jm_m215 7 (tgt := 31) (nxt := 13) rfl rfl rfl (fun c10 => ?_) (fun c10 => ?_)
    · have c10 : y = 0 := (jl_cmp (by omega) (by omega)).mp c10
      refine jt_go jm_m215 17 1 (f' := (33, [(0, .inr (.inl (lN A))), (2, .inr (.inl (lN B))), (4, .inr (.inl (lN x))), (6, .inr (.inl (lN y)))], [.inr (.inl (lN x))], h)) (P := True) rfl trivial ?_
      refine jt_lret jm_m215 18 rfl ?_
      have e0 : y = 0 := by first | exact c10 | omega
      subst e0
      exact ⟨by rw [Nat.gcd_zero_right], rfl⟩
    · have c10 : ¬ y = 0 := fun z => c10 ((jl_cmp (by omega) (by omega)).mpr z)
      refine jt_go jm_m215 8 3 (f' := (18, [(0, .inr (.inl (lN A))), (2, .inr (.inl (lN B))), (4, .inr (.inl (lN x))), (6, .inr (.inl (lN y)))], [.inr (.inl ((lN x) - (lN x) / (lN y) * (lN y)))], h)) (P := ¬ (lN y) = 0 ∧ True) rfl ⟨(jl_ne0 (by omega) c10), trivial⟩ ?_
      refine jt_tl (show ((lN x) - (lN x) / (lN y) * (lN y)) = lN (x % y) from jl_rem (by omega) (by omega)) ?_
      refine jt_go jm_m215 11 6 (f' := (6, [(6, .inr (.inl (lN (x % y)))), (4, .inr (.inl (lN y))), (8, .inr (.inl (lN (x % y)))), (0, .inr (.inl (lN A))), (2, .inr (.inl (lN B)))], [], h)) (P := True) rfl trivial ?_
      refine jt_pick (L' := [(0, .inr (.inl (lN A))), (2, .inr (.inl (lN B))), (4, .inr (.inl (lN y))), (6, .inr (.inl (lN (x % y))))]) [3, 4, 1, 0] rfl ?_
      have hg : Nat.gcd x y = Nat.gcd y (x % y) := jl_gcd
      rw [hg]
      have hr : x % y < y := Nat.mod_lt _ (by omega)
      exact ih (x % y) hr y hy (by omega)
set_option maxHeartbeats 4000000 in
set_option maxRecDepth 20000 in
theorem cb_gcd {h : jm_M} {x y : Nat} (hx : x < 2 ^ 62) (hy : y < 2 ^ 62) : jt_T 215 (0, [(0, .inr (.inl (lN x))), (2, .inr (.inl (lN y)))], [], h) (fun u h' => u = some (.inr (.inl (lN (Nat.gcd x y)))) ∧ h' = h) := by
  refine jt_go jm_m215 0 4 (f' := (6, [(6, .inr (.inl (lN y))), (4, .inr (.inl (lN x))), (0, .inr (.inl (lN x))), (2, .inr (.inl (lN y)))], [], h)) (P := True) rfl trivial ?_
  refine jt_pick (L' := [(0, .inr (.inl (lN x))), (2, .inr (.inl (lN y))), (4, .inr (.inl (lN x))), (6, .inr (.inl (lN y)))]) [2, 3, 1, 0] rfl ?_
  exact cb_gcd_l y x hx hy
/-- above by below in least terms: which part -/
def sp_frac (a b w : Nat) : Nat := if a = 0 then w else (if w = 0 then a else b) / Nat.gcd a b
theorem sp_frac0 {b w : Nat} (hb : 0 < b) (hw : w ≤ 1) : (if w = 0 then 0 else b) / Nat.gcd 0 b = w := by
  rw [Nat.gcd_zero_left]
  rcases (show w = 0 ∨ w = 1 by omega) with rfl | rfl
  · simp
  · simp only [Nat.reduceEqDiff, if_false]; exact Nat.div_self hb
set_option maxHeartbeats 4000000 in
set_option maxRecDepth 20000 in
theorem ca_frac {h : jm_M} {x y w : Nat} (hx : x < 2 ^ 62) (hy : y < 2 ^ 31) (hy0 : 0 < y) (hw : w ≤ 1) : jt_Pu 116 [.inr (.inl (lN x)), .inr (.inl (lN y)), .inl (nI w)] h (.inr (.inl (lN (sp_frac x y w)))) := by
  show jt_T 116 (0, [(0, .inr (.inl (lN x))), (2, .inr (.inl (lN y))), (4, .inl (nI w))], [], h) _
  refine jt_go jm_m116 0 1 (f' := (2, [(0, .inr (.inl (lN x))), (2, .inr (.inl (lN y))), (4, .inl (nI w))], [.inl (nI w)], h)) (P := True) rfl trivial ?_
  refine jt_nifne jm_m116 1 (by omega) (tgt := 9) (nxt := 5) rfl rfl rfl (fun c2 => ?_) (fun c2 => ?_)
  · refine jt_go jm_m116 4 4 (f' := (14, [(5, .inr (.inl (lN y))), (0, .inr (.inl (lN x))), (2, .inr (.inl (lN y))), (4, .inl (nI w))], [.inr (.inl (lN y)), .inr (.inl (lN x))], h)) (P := True) rfl trivial ?_
    refine jt_callp (w := .inr (.inl (lN (Nat.gcd x y)))) jm_m116 8 (mi' := 117) (as := [.inr (.inl (lN x)), .inr (.inl (lN y))]) (rest := []) (nxt := 17) rfl rfl jm_m117 rfl rfl (ca_gcd (by omega) (by omega)) ?_
    have bg := jl_gcd_lt (x := x) (y := y) (by omega) (by omega)
    refine jt_go jm_m116 9 4 (f' := (23, [(7, .inr (.inl (lN (Nat.gcd x y)))), (5, .inr (.inl (lN y))), (0, .inr (.inl (lN x))), (2, .inr (.inl (lN y))), (4, .inl (nI w))], [.inl (lg_cmp (lN (Nat.gcd x y)) (lN 0))], h)) (P := True) rfl trivial ?_
    refine jt_ifne jm_m116 13 (tgt := 31) (nxt := 26) rfl rfl rfl (fun c23 => ?_) (fun c23 => ?_)
    · have c23 : ¬ Nat.gcd x y = 0 := fun z => c23 ((jl_cmp (by omega) (by omega)).mpr z)
      refine jt_go jm_m116 16 3 (f' := (36, [(7, .inr (.inl (lN (Nat.gcd x y)))), (5, .inr (.inl (lN y))), (0, .inr (.inl (lN x))), (2, .inr (.inl (lN y))), (4, .inl (nI w))], [.inr (.inl ((lN y) / (lN (Nat.gcd x y))))], h)) (P := ¬ (lN (Nat.gcd x y)) = 0 ∧ True) rfl ⟨(jl_ne0 (by omega) c23), trivial⟩ ?_
      refine jt_tl (show ((lN y) / (lN (Nat.gcd x y))) = lN (y / (Nat.gcd x y)) from jl_div (by omega) (by omega)) ?_
      refine jt_lret jm_m116 19 rfl ?_
      refine ⟨congrArg (fun z => some (Sum.inr (Sum.inl (lN z)))) ?_, rfl⟩
      unfold sp_frac
      have bp : 0 < Nat.gcd x y := Nat.gcd_pos_of_pos_right _ hy0
      split
      · rename_i q; rw [q] at bp ⊢; have e := sp_frac0 (b := y) (w := w) hy0 hw; first | (rw [← e, if_pos (by omega)]; done) | (rw [← e, if_neg (by omega)]; done) | (rw [← e, if_pos (by omega)]; omega)
      · first | rfl | rw [if_pos (by omega)] | rw [if_neg (by omega)]
    · have c23 : Nat.gcd x y = 0 := (jl_cmp (by omega) (by omega)).mp c23
      exact absurd c23 (Nat.pos_iff_ne_zero.mp (Nat.gcd_pos_of_pos_right _ hy0))
  · refine jt_go jm_m116 2 2 (f' := (10, [(0, .inr (.inl (lN x))), (2, .inr (.inl (lN y))), (4, .inl (nI w))], [.inr (.inl (lN x))], h)) (P := True) rfl trivial ?_
    refine jt_go jm_m116 5 3 (f' := (14, [(5, .inr (.inl (lN x))), (0, .inr (.inl (lN x))), (2, .inr (.inl (lN y))), (4, .inl (nI w))], [.inr (.inl (lN y)), .inr (.inl (lN x))], h)) (P := True) rfl trivial ?_
    refine jt_callp (w := .inr (.inl (lN (Nat.gcd x y)))) jm_m116 8 (mi' := 117) (as := [.inr (.inl (lN x)), .inr (.inl (lN y))]) (rest := []) (nxt := 17) rfl rfl jm_m117 rfl rfl (ca_gcd (by omega) (by omega)) ?_
    have bg := jl_gcd_lt (x := x) (y := y) (by omega) (by omega)
    refine jt_go jm_m116 9 4 (f' := (23, [(7, .inr (.inl (lN (Nat.gcd x y)))), (5, .inr (.inl (lN x))), (0, .inr (.inl (lN x))), (2, .inr (.inl (lN y))), (4, .inl (nI w))], [.inl (lg_cmp (lN (Nat.gcd x y)) (lN 0))], h)) (P := True) rfl trivial ?_
    refine jt_ifne jm_m116 13 (tgt := 31) (nxt := 26) rfl rfl rfl (fun c23 => ?_) (fun c23 => ?_)
    · have c23 : ¬ Nat.gcd x y = 0 := fun z => c23 ((jl_cmp (by omega) (by omega)).mpr z)
      refine jt_go jm_m116 16 3 (f' := (36, [(7, .inr (.inl (lN (Nat.gcd x y)))), (5, .inr (.inl (lN x))), (0, .inr (.inl (lN x))), (2, .inr (.inl (lN y))), (4, .inl (nI w))], [.inr (.inl ((lN x) / (lN (Nat.gcd x y))))], h)) (P := ¬ (lN (Nat.gcd x y)) = 0 ∧ True) rfl ⟨(jl_ne0 (by omega) c23), trivial⟩ ?_
      refine jt_tl (show ((lN x) / (lN (Nat.gcd x y))) = lN (x / (Nat.gcd x y)) from jl_div (by omega) (by omega)) ?_
      refine jt_lret jm_m116 19 rfl ?_
      refine ⟨congrArg (fun z => some (Sum.inr (Sum.inl (lN z)))) ?_, rfl⟩
      unfold sp_frac
      have bp : 0 < Nat.gcd x y := Nat.gcd_pos_of_pos_right _ hy0
      split
      · rename_i q; rw [q] at bp ⊢; have e := sp_frac0 (b := y) (w := w) hy0 hw; first | (rw [← e, if_pos (by omega)]; done) | (rw [← e, if_neg (by omega)]; done) | (rw [← e, if_pos (by omega)]; omega)
      · first | rfl | rw [if_pos (by omega)] | rw [if_neg (by omega)]
    · have c23 : Nat.gcd x y = 0 := (jl_cmp (by omega) (by omega)).mp c23
      exact absurd c23 (Nat.pos_iff_ne_zero.mp (Nat.gcd_pos_of_pos_right _ hy0))
set_option maxHeartbeats 4000000 in
set_option maxRecDepth 20000 in
theorem cb_frac {h : jm_M} {x y w : Nat} (hx : x < 2 ^ 62) (hy : y < 2 ^ 31) (hy0 : x = 0 ∨ 0 < y) (hw : w ≤ 1) : jt_Pu 216 [.inr (.inl (lN x)), .inr (.inl (lN y)), .inl (nI w)] h (.inr (.inl (lN (sp_frac x y w)))) := by
  show jt_T 216 (0, [(0, .inr (.inl (lN x))), (2, .inr (.inl (lN y))), (4, .inl (nI w))], [], h) _
  refine jt_go jm_m216 0 3 (f' := (3, [(0, .inr (.inl (lN x))), (2, .inr (.inl (lN y))), (4, .inl (nI w))], [.inl (lg_cmp (lN x) (lN 0))], h)) (P := True) rfl trivial ?_
  refine jt_ifne jm_m216 3 (tgt := 10) (nxt := 6) rfl rfl rfl (fun c3 => ?_) (fun c3 => ?_)
  · have c3 : ¬ x = 0 := fun z => c3 ((jl_cmp (by omega) (by omega)).mpr z)
    refine jt_go jm_m216 7 1 (f' := (12, [(0, .inr (.inl (lN x))), (2, .inr (.inl (lN y))), (4, .inl (nI w))], [.inl (nI w)], h)) (P := True) rfl trivial ?_
    refine jt_nifne jm_m216 8 (by omega) (tgt := 19) (nxt := 15) rfl rfl rfl (fun c12 => ?_) (fun c12 => ?_)
    · refine jt_go jm_m216 11 3 (f' := (22, [(0, .inr (.inl (lN x))), (2, .inr (.inl (lN y))), (4, .inl (nI w))], [.inr (.inl (lN y)), .inr (.inl (lN x)), .inr (.inl (lN y))], h)) (P := True) rfl trivial ?_
      refine jt_callp (w := .inr (.inl (lN (Nat.gcd x y)))) jm_m216 14 (mi' := 215) (as := [.inr (.inl (lN x)), .inr (.inl (lN y))]) (rest := [.inr (.inl (lN y))]) (nxt := 25) rfl rfl jm_m215 rfl rfl (cb_gcd (by omega) (by omega)) ?_
      have bg := jl_gcd_lt (x := x) (y := y) (by omega) (by omega)
      refine jt_go jm_m216 15 1 (f' := (26, [(0, .inr (.inl (lN x))), (2, .inr (.inl (lN y))), (4, .inl (nI w))], [.inr (.inl ((lN y) / (lN (Nat.gcd x y))))], h)) (P := ¬ (lN (Nat.gcd x y)) = 0 ∧ True) rfl ⟨(jl_ne0 (by omega) (fun z => by have := Nat.gcd_pos_of_pos_right x (show 0 < y by omega); omega)), trivial⟩ ?_
      refine jt_tl (show ((lN y) / (lN (Nat.gcd x y))) = lN (y / (Nat.gcd x y)) from jl_div (by omega) (by omega)) ?_
      refine jt_lret jm_m216 16 rfl ?_
      refine ⟨congrArg (fun z => some (Sum.inr (Sum.inl (lN z)))) ?_, rfl⟩
      unfold sp_frac
      rw [if_neg c3]
      first | rw [if_pos (by omega)] | rw [if_neg (by omega)]
    · refine jt_go jm_m216 9 2 (f' := (20, [(0, .inr (.inl (lN x))), (2, .inr (.inl (lN y))), (4, .inl (nI w))], [.inr (.inl (lN x))], h)) (P := True) rfl trivial ?_
      refine jt_go jm_m216 12 2 (f' := (22, [(0, .inr (.inl (lN x))), (2, .inr (.inl (lN y))), (4, .inl (nI w))], [.inr (.inl (lN y)), .inr (.inl (lN x)), .inr (.inl (lN x))], h)) (P := True) rfl trivial ?_
      refine jt_callp (w := .inr (.inl (lN (Nat.gcd x y)))) jm_m216 14 (mi' := 215) (as := [.inr (.inl (lN x)), .inr (.inl (lN y))]) (rest := [.inr (.inl (lN x))]) (nxt := 25) rfl rfl jm_m215 rfl rfl (cb_gcd (by omega) (by omega)) ?_
      have bg := jl_gcd_lt (x := x) (y := y) (by omega) (by omega)
      refine jt_go jm_m216 15 1 (f' := (26, [(0, .inr (.inl (lN x))), (2, .inr (.inl (lN y))), (4, .inl (nI w))], [.inr (.inl ((lN x) / (lN (Nat.gcd x y))))], h)) (P := ¬ (lN (Nat.gcd x y)) = 0 ∧ True) rfl ⟨(jl_ne0 (by omega) (fun z => by have := Nat.gcd_pos_of_pos_right x (show 0 < y by omega); omega)), trivial⟩ ?_
      refine jt_tl (show ((lN x) / (lN (Nat.gcd x y))) = lN (x / (Nat.gcd x y)) from jl_div (by omega) (by omega)) ?_
      refine jt_lret jm_m216 16 rfl ?_
      refine ⟨congrArg (fun z => some (Sum.inr (Sum.inl (lN z)))) ?_, rfl⟩
      unfold sp_frac
      rw [if_neg c3]
      first | rw [if_pos (by omega)] | rw [if_neg (by omega)]
  · have c3 : x = 0 := (jl_cmp (by omega) (by omega)).mp c3
    refine jt_go jm_m216 4 2 (f' := (9, [(0, .inr (.inl (lN x))), (2, .inr (.inl (lN y))), (4, .inl (nI w))], [.inr (.inl ((nI w).toInt64))], h)) (P := True) rfl trivial ?_
    refine jt_tl (show ((nI w).toInt64) = lN w from nI_l (by omega)) ?_
    refine jt_lret jm_m216 6 rfl ?_
    refine ⟨congrArg (fun z => some (Sum.inr (Sum.inl (lN z)))) ?_, rfl⟩
    unfold sp_frac
    rw [if_pos c3]
def zb_mean (g : Nat → Nat) (w : Nat) : Int64 := lN (sp_frac (sp_sum (fun c => g (38 + 5 * c)) (g 0)) (g 0) w)
def za_mean (g : Nat → Nat) (x : Int32) : Int64 := if nI 0 ≤ x ∧ x ≤ nI 1 then zb_mean g x.toNatClampNeg else lN 1000000001
set_option maxHeartbeats 4000000 in
set_option maxRecDepth 20000 in
theorem ca_mean_l {h : jm_M} {g : Nat → Nat} (R : jf_rel h 0 g) (W : jw g) {w : Nat} (hw : w ≤ 1) (h0 : 0 < g 0) : ∀ k, k ≤ g 0 → jt_T 115 (30, [(0, .inr (.inr (0, 0, 0))), (1, .inl (nI w)), (2, .inl (nI (sp_sum (fun c => g (38 + 5 * c)) k))), (3, .inl (nI k))], [], h) (fun u h' => u = some (.inr (.inl (zb_mean g w))) ∧ h' = h) := jx_up (fun k hk nx => by
  have bn := jw_n W
  have bm := jw_m W
  have bt := jw_t W
  have bs : sp_sum (fun c => g (38 + 5 * c)) k ≤ 15 * k := sp_sum_le k (fun i hi => by have := jw_at W (c := i) (by omega); omega)
  refine jt_go jm_m115 18 4 (f' := (38, [(0, .inr (.inr (0, 0, 0))), (1, .inl (nI w)), (2, .inl (nI (sp_sum (fun c => g (38 + 5 * c)) k))), (3, .inl (nI k))], [.inl (h (2, 0, 0) 9), .inl (nI k)], h)) (P := True) rfl trivial ?_
  refine jt_ti (show (h (2, 0, 0) 9) = nI (g 0) from jf_cats R) ?_
  have bq1 := jw_n W
  refine jt_nicge jm_m115 22 (a := k) (b := g 0) (by omega) (by omega) (tgt := 59) (nxt := 41) rfl rfl rfl (fun c38 => ?_) (fun c38 => ?_)
  · refine jt_go jm_m115 33 2 (f' := (61, [(0, .inr (.inr (0, 0, 0))), (1, .inl (nI w)), (2, .inl (nI (sp_sum (fun c => g (38 + 5 * c)) k))), (3, .inl (nI k))], [.inr (.inl ((nI (sp_sum (fun c => g (38 + 5 * c)) k)).toInt64))], h)) (P := True) rfl trivial ?_
    refine jt_tl (show ((nI (sp_sum (fun c => g (38 + 5 * c)) k)).toInt64) = lN (sp_sum (fun c => g (38 + 5 * c)) k) from nI_l (by omega)) ?_
    refine jt_go jm_m115 35 3 (f' := (68, [(0, .inr (.inr (0, 0, 0))), (1, .inl (nI w)), (2, .inl (nI (sp_sum (fun c => g (38 + 5 * c)) k))), (3, .inl (nI k))], [.inl (h (2, 0, 0) 9), .inr (.inl (lN (sp_sum (fun c => g (38 + 5 * c)) k)))], h)) (P := True) rfl trivial ?_
    refine jt_ti (show (h (2, 0, 0) 9) = nI (g 0) from jf_cats R) ?_
    have bq2 := jw_n W
    refine jt_go jm_m115 38 1 (f' := (69, [(0, .inr (.inr (0, 0, 0))), (1, .inl (nI w)), (2, .inl (nI (sp_sum (fun c => g (38 + 5 * c)) k))), (3, .inl (nI k))], [.inr (.inl ((nI (g 0)).toInt64)), .inr (.inl (lN (sp_sum (fun c => g (38 + 5 * c)) k)))], h)) (P := True) rfl trivial ?_
    refine jt_tl (show ((nI (g 0)).toInt64) = lN (g 0) from nI_l (by omega)) ?_
    refine jt_go jm_m115 39 1 (f' := (70, [(0, .inr (.inr (0, 0, 0))), (1, .inl (nI w)), (2, .inl (nI (sp_sum (fun c => g (38 + 5 * c)) k))), (3, .inl (nI k))], [.inl (nI w), .inr (.inl (lN (g 0))), .inr (.inl (lN (sp_sum (fun c => g (38 + 5 * c)) k)))], h)) (P := True) rfl trivial ?_
    refine jt_callp (w := .inr (.inl (lN (sp_frac (sp_sum (fun c => g (38 + 5 * c)) k) (g 0) w)))) jm_m115 40 (mi' := 116) (as := [.inr (.inl (lN (sp_sum (fun c => g (38 + 5 * c)) k))), .inr (.inl (lN (g 0))), .inl (nI w)]) (rest := []) (nxt := 73) rfl rfl jm_m116 rfl rfl (ca_frac (by omega) (by omega) (by omega) (by omega)) ?_
    refine jt_lret jm_m115 41 rfl ?_
    have e : k = g 0 := by omega
    subst e
    exact ⟨rfl, rfl⟩
  · refine jt_go jm_m115 23 6 (f' := (51, [(0, .inr (.inr (0, 0, 0))), (1, .inl (nI w)), (2, .inl (nI (sp_sum (fun c => g (38 + 5 * c)) k))), (3, .inl (nI k))], [.inl (h (2, 0, 3) (nI k).toNatClampNeg), .inl (nI (sp_sum (fun c => g (38 + 5 * c)) k))], h)) (P := vp_in (nI k) 6 ∧ True) rfl ⟨(vp_in_nI (by omega) (by decide)), trivial⟩ ?_
    refine jt_ti (show (h (2, 0, 3) (nI k).toNatClampNeg) = nI (g (38 + 5 * k)) from jf_at R (c := k) (nI_clamp (by omega)) (by omega)) ?_
    have bq3 := jw_at W (c := k) (by omega)
    refine jt_go jm_m115 29 1 (f' := (52, [(0, .inr (.inr (0, 0, 0))), (1, .inl (nI w)), (2, .inl (nI (sp_sum (fun c => g (38 + 5 * c)) k))), (3, .inl (nI k))], [.inl ((nI (sp_sum (fun c => g (38 + 5 * c)) k)) + (nI (g (38 + 5 * k))))], h)) (P := True) rfl trivial ?_
    refine jt_ti (show ((nI (sp_sum (fun c => g (38 + 5 * c)) k)) + (nI (g (38 + 5 * k)))) = nI (sp_sum (fun c => g (38 + 5 * c)) k + (g (38 + 5 * k))) from nI_add _ _) ?_
    refine jt_go jm_m115 30 1 (f' := (53, [(2, .inl (nI (sp_sum (fun c => g (38 + 5 * c)) k + (g (38 + 5 * k))))), (0, .inr (.inr (0, 0, 0))), (1, .inl (nI w)), (3, .inl (nI k))], [], h)) (P := True) rfl trivial ?_
    refine jt_inc jm_m115 31 (c := k) (L' := [(3, .inl (nI (k + 1))), (2, .inl (nI (sp_sum (fun c => g (38 + 5 * c)) k + (g (38 + 5 * k))))), (0, .inr (.inr (0, 0, 0))), (1, .inl (nI w))]) rfl rfl rfl rfl ?_
    refine jt_go jm_m115 32 1 (f' := (30, [(3, .inl (nI (k + 1))), (2, .inl (nI (sp_sum (fun c => g (38 + 5 * c)) k + (g (38 + 5 * k))))), (0, .inr (.inr (0, 0, 0))), (1, .inl (nI w))], [], h)) (P := True) rfl trivial ?_
    refine jt_pick (L' := [(0, .inr (.inr (0, 0, 0))), (1, .inl (nI w)), (2, .inl (nI (sp_sum (fun c => g (38 + 5 * c)) k + (g (38 + 5 * k))))), (3, .inl (nI (k + 1)))]) [2, 3, 1, 0] rfl ?_
    exact nx (by omega))
set_option maxHeartbeats 4000000 in
set_option maxRecDepth 20000 in
theorem cb_mean_l {h : jm_M} {g : Nat → Nat} (R : jg_rel h 0 g) (W : jw g) {w : Nat} (hw : w ≤ 1) : ∀ k, k ≤ g 0 → jt_T 218 (18, [(0, .inr (.inr (4, 0, 0))), (1, .inl (nI w)), (2, .inr (.inl (lN (sp_sum (fun c => g (38 + 5 * c)) k)))), (4, .inl (nI k))], [], h) (fun u h' => u = some (.inr (.inl (zb_mean g w))) ∧ h' = h) := jx_up (fun k hk nx => by
  have bn := jw_n W
  have bm := jw_m W
  have bt := jw_t W
  have bs : sp_sum (fun c => g (38 + 5 * c)) k ≤ 15 * k := sp_sum_le k (fun i hi => by have := jw_at W (c := i) (by omega); omega)
  have bz : g 0 = 0 → sp_sum (fun c => g (38 + 5 * c)) (g 0) = 0 := fun z => by rw [z]; rfl
  refine jt_go jm_m218 11 5 (f' := (26, [(0, .inr (.inr (4, 0, 0))), (1, .inl (nI w)), (2, .inr (.inl (lN (sp_sum (fun c => g (38 + 5 * c)) k)))), (4, .inl (nI k))], [.inl (h (5, 0, 0) (nI 0).toNatClampNeg), .inl (nI k)], h)) (P := vp_in (nI 0) 78 ∧ True) rfl ⟨(vp_in_nI (by omega) (by decide)), trivial⟩ ?_
  refine jt_ti (show (h (5, 0, 0) (nI 0).toNatClampNeg) = nI (g 0) from jg_get R (k := 0) (nI_clamp (by omega)) (by omega)) ?_
  have bq1 := jw_n W
  refine jt_nicge jm_m218 16 (a := k) (b := g 0) (by omega) (by omega) (tgt := 50) (nxt := 29) rfl rfl rfl (fun c26 => ?_) (fun c26 => ?_)
  · have e : k = g 0 := by omega
    subst e
    show jt_T 218 (50, [(0, .inr (.inr (4, 0, 0))), (1, .inl (nI w)), (2, .inr (.inl (lN (sp_sum (fun c => g (38 + 5 * c)) (g 0))))), (4, .inl (nI (g 0)))], [], h) _
    refine jt_go jm_m218 29 5 (f' := (57, [(0, .inr (.inr (4, 0, 0))), (1, .inl (nI w)), (2, .inr (.inl (lN (sp_sum (fun c => g (38 + 5 * c)) (g 0))))), (4, .inl (nI (g 0)))], [.inl (h (5, 0, 0) (nI 0).toNatClampNeg), .inr (.inl (lN (sp_sum (fun c => g (38 + 5 * c)) (g 0))))], h)) (P := vp_in (nI 0) 78 ∧ True) rfl ⟨(vp_in_nI (by omega) (by decide)), trivial⟩ ?_
    refine jt_ti (show (h (5, 0, 0) (nI 0).toNatClampNeg) = nI (g 0) from jg_get R (k := 0) (nI_clamp (by omega)) (by omega)) ?_
    have bq2 := jw_n W
    refine jt_go jm_m218 34 1 (f' := (58, [(0, .inr (.inr (4, 0, 0))), (1, .inl (nI w)), (2, .inr (.inl (lN (sp_sum (fun c => g (38 + 5 * c)) (g 0))))), (4, .inl (nI (g 0)))], [.inr (.inl ((nI (g 0)).toInt64)), .inr (.inl (lN (sp_sum (fun c => g (38 + 5 * c)) (g 0))))], h)) (P := True) rfl trivial ?_
    refine jt_tl (show ((nI (g 0)).toInt64) = lN (g 0) from nI_l (by omega)) ?_
    refine jt_go jm_m218 35 1 (f' := (59, [(0, .inr (.inr (4, 0, 0))), (1, .inl (nI w)), (2, .inr (.inl (lN (sp_sum (fun c => g (38 + 5 * c)) (g 0))))), (4, .inl (nI (g 0)))], [.inl (nI w), .inr (.inl (lN (g 0))), .inr (.inl (lN (sp_sum (fun c => g (38 + 5 * c)) (g 0))))], h)) (P := True) rfl trivial ?_
    refine jt_callp (w := .inr (.inl (lN (sp_frac (sp_sum (fun c => g (38 + 5 * c)) (g 0)) (g 0) w)))) jm_m218 36 (mi' := 216) (as := [.inr (.inl (lN (sp_sum (fun c => g (38 + 5 * c)) (g 0)))), .inr (.inl (lN (g 0))), .inl (nI w)]) (rest := []) (nxt := 62) rfl rfl jm_m216 rfl rfl (cb_frac (by omega) (by omega) (by omega) (by omega)) ?_
    refine jt_lret jm_m218 37 rfl ?_
    exact ⟨rfl, rfl⟩
  · refine jt_go jm_m218 17 5 (f' := (37, [(0, .inr (.inr (4, 0, 0))), (1, .inl (nI w)), (2, .inr (.inl (lN (sp_sum (fun c => g (38 + 5 * c)) k)))), (4, .inl (nI k))], [.inl (nI 2), .inl (nI k), .inr (.inr (5, 0, 0)), .inr (.inl (lN (sp_sum (fun c => g (38 + 5 * c)) k)))], h)) (P := True) rfl trivial ?_
    refine jt_callp (w := .inl (nI (38 + 5 * k))) jm_m218 22 (mi' := 147) (as := [.inl (nI k), .inl (nI 2)]) (rest := [.inr (.inr (5, 0, 0)), .inr (.inl (lN (sp_sum (fun c => g (38 + 5 * c)) k)))]) (nxt := 40) rfl rfl jm_m147 rfl rfl (tb_ofC (k := 38 + 5 * k) (by omega)) ?_
    refine jt_go jm_m218 23 1 (f' := (41, [(0, .inr (.inr (4, 0, 0))), (1, .inl (nI w)), (2, .inr (.inl (lN (sp_sum (fun c => g (38 + 5 * c)) k)))), (4, .inl (nI k))], [.inl (h (5, 0, 0) (nI (38 + 5 * k)).toNatClampNeg), .inr (.inl (lN (sp_sum (fun c => g (38 + 5 * c)) k)))], h)) (P := vp_in (nI (38 + 5 * k)) 78 ∧ True) rfl ⟨(vp_in_nI (by omega) (by decide)), trivial⟩ ?_
    refine jt_ti (show (h (5, 0, 0) (nI (38 + 5 * k)).toNatClampNeg) = nI (g (38 + 5 * k)) from jg_get R (k := 38 + 5 * k) (nI_clamp (by omega)) (by omega)) ?_
    have bq3 := jw_at W (c := k) (by omega)
    refine jt_go jm_m218 24 1 (f' := (42, [(0, .inr (.inr (4, 0, 0))), (1, .inl (nI w)), (2, .inr (.inl (lN (sp_sum (fun c => g (38 + 5 * c)) k)))), (4, .inl (nI k))], [.inr (.inl ((nI (g (38 + 5 * k))).toInt64)), .inr (.inl (lN (sp_sum (fun c => g (38 + 5 * c)) k)))], h)) (P := True) rfl trivial ?_
    refine jt_tl (show ((nI (g (38 + 5 * k))).toInt64) = lN (g (38 + 5 * k)) from nI_l (by omega)) ?_
    refine jt_go jm_m218 25 1 (f' := (43, [(0, .inr (.inr (4, 0, 0))), (1, .inl (nI w)), (2, .inr (.inl (lN (sp_sum (fun c => g (38 + 5 * c)) k)))), (4, .inl (nI k))], [.inr (.inl ((lN (sp_sum (fun c => g (38 + 5 * c)) k)) + (lN (g (38 + 5 * k)))))], h)) (P := True) rfl trivial ?_
    refine jt_tl (show ((lN (sp_sum (fun c => g (38 + 5 * c)) k)) + (lN (g (38 + 5 * k)))) = lN (sp_sum (fun c => g (38 + 5 * c)) k + (g (38 + 5 * k))) from lN_add _ _) ?_
    refine jt_go jm_m218 26 1 (f' := (44, [(2, .inr (.inl (lN (sp_sum (fun c => g (38 + 5 * c)) k + (g (38 + 5 * k)))))), (0, .inr (.inr (4, 0, 0))), (1, .inl (nI w)), (4, .inl (nI k))], [], h)) (P := True) rfl trivial ?_
    refine jt_inc jm_m218 27 (c := k) (L' := [(4, .inl (nI (k + 1))), (2, .inr (.inl (lN (sp_sum (fun c => g (38 + 5 * c)) k + (g (38 + 5 * k)))))), (0, .inr (.inr (4, 0, 0))), (1, .inl (nI w))]) rfl rfl rfl rfl ?_
    refine jt_go jm_m218 28 1 (f' := (18, [(4, .inl (nI (k + 1))), (2, .inr (.inl (lN (sp_sum (fun c => g (38 + 5 * c)) k + (g (38 + 5 * k)))))), (0, .inr (.inr (4, 0, 0))), (1, .inl (nI w))], [], h)) (P := True) rfl trivial ?_
    refine jt_pick (L' := [(0, .inr (.inr (4, 0, 0))), (1, .inl (nI w)), (2, .inr (.inl (lN (sp_sum (fun c => g (38 + 5 * c)) k + (g (38 + 5 * k)))))), (4, .inl (nI (k + 1)))]) [2, 3, 1, 0] rfl ?_
    exact nx (by omega))
