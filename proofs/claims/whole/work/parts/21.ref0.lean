/-! REFERENCE: small questions, an hour. -/
set_option maxRecDepth 100000 in
theorem jx_r24 : ∀ t, t < 25 → nI t - nI t / nI 24 * nI 24 = nI (t % 24) := by decide +kernel
theorem jx_or0 (x : Int32) : x ||| nI 0 = x := Int32.or_zero
theorem jx_lt1 {x : Int32} {n : Nat} (hn : n < 2 ^ 31) : x ≤ nI n - nI 1 ↔ x < nI n := by
  have h1 : (nI 1).toInt = 1 := by decide
  have h2 := nI_toInt hn
  have h3 : (nI n - nI 1).toInt = (n : Int) - 1 := by
    rw [Int32.toInt_sub, h2, h1]
    exact Int.bmod_eq_of_le (by omega) (by omega)
  rw [Int32.le_iff_toInt_le, Int32.lt_iff_toInt_lt, h3, h2]
  omega
set_option maxHeartbeats 4000000 in
set_option maxRecDepth 20000 in
theorem tb_isIn {h : jm_M} {x a b : Int32} : jt_Pu 143 [.inl (x), .inl (a), .inl (b)] h (.inl (jm_b (a ≤ x ∧ x ≤ b))) := by
  show jt_T 143 (0, [(0, .inl (x)), (1, .inl (a)), (2, .inl (b))], [], h) _
  refine jt_go jm_m143 0 2 (f' := (2, [(0, .inl (x)), (1, .inl (a)), (2, .inl (b))], [.inl (a), .inl (x)], h)) (P := True) rfl trivial ?_
  refine jt_iclt jm_m143 2 (tgt := 14) (nxt := 5) rfl rfl rfl (fun c2 => ?_) (fun c2 => ?_)
  · refine jt_go jm_m143 8 1 (f' := (15, [(0, .inl (x)), (1, .inl (a)), (2, .inl (b))], [.inl (nI 0)], h)) (P := True) rfl trivial ?_
    refine jt_zret jm_m143 9 rfl (Or.inl rfl) ?_
    exact ⟨jt_lb0 (fun z => absurd (Int32.not_lt.mpr z.1) (fun q => q c2)), rfl⟩
  · refine jt_go jm_m143 3 2 (f' := (7, [(0, .inl (x)), (1, .inl (a)), (2, .inl (b))], [.inl (b), .inl (x)], h)) (P := True) rfl trivial ?_
    refine jt_icgt jm_m143 5 (tgt := 14) (nxt := 10) rfl rfl rfl (fun c7 => ?_) (fun c7 => ?_)
    · refine jt_go jm_m143 8 1 (f' := (15, [(0, .inl (x)), (1, .inl (a)), (2, .inl (b))], [.inl (nI 0)], h)) (P := True) rfl trivial ?_
      refine jt_zret jm_m143 9 rfl (Or.inl rfl) ?_
      exact ⟨jt_lb0 (fun z => absurd (Int32.not_lt.mpr z.2) (fun q => q c7)), rfl⟩
    · refine jt_go jm_m143 6 2 (f' := (15, [(0, .inl (x)), (1, .inl (a)), (2, .inl (b))], [.inl (nI 1)], h)) (P := True) rfl trivial ?_
      refine jt_zret jm_m143 9 rfl (Or.inr rfl) ?_
      exact ⟨jt_lb1 (⟨Int32.not_lt.mp c2, Int32.not_lt.mp c7⟩), rfl⟩
set_option maxHeartbeats 4000000 in
set_option maxRecDepth 20000 in
theorem tb_least {h : jm_M} {x y : Nat} (hx : x < 2 ^ 31) (hy : y < 2 ^ 31) : jt_Pu 144 [.inl (nI x), .inl (nI y)] h (.inl (nI (min x y))) := by
  show jt_T 144 (0, [(0, .inl (nI x)), (1, .inl (nI y))], [], h) _
  refine jt_go jm_m144 0 2 (f' := (2, [(0, .inl (nI x)), (1, .inl (nI y))], [.inl (nI y), .inl (nI x)], h)) (P := True) rfl trivial ?_
  refine jt_nicge jm_m144 2 (a := x) (b := y) (by omega) (by omega) (tgt := 9) (nxt := 5) rfl rfl rfl (fun c2 => ?_) (fun c2 => ?_)
  · refine jt_go jm_m144 5 1 (f' := (10, [(0, .inl (nI x)), (1, .inl (nI y))], [.inl (nI y)], h)) (P := True) rfl trivial ?_
    refine jt_iret jm_m144 6 rfl ?_
    exact ⟨jt_ln (by omega), rfl⟩
  · refine jt_go jm_m144 3 2 (f' := (10, [(0, .inl (nI x)), (1, .inl (nI y))], [.inl (nI x)], h)) (P := True) rfl trivial ?_
    refine jt_iret jm_m144 6 rfl ?_
    exact ⟨jt_ln (by omega), rfl⟩
set_option maxHeartbeats 4000000 in
set_option maxRecDepth 20000 in
theorem tb_apart {h : jm_M} {x y : Nat} (hx : x < 2 ^ 31) (hy : y < 2 ^ 31) : jt_Pu 145 [.inl (nI x), .inl (nI y)] h (.inl (nI (sp_ap x y))) := by
  show jt_T 145 (0, [(0, .inl (nI x)), (1, .inl (nI y))], [], h) _
  refine jt_go jm_m145 0 2 (f' := (2, [(0, .inl (nI x)), (1, .inl (nI y))], [.inl (nI y), .inl (nI x)], h)) (P := True) rfl trivial ?_
  refine jt_nicge jm_m145 2 (a := x) (b := y) (by omega) (by omega) (tgt := 11) (nxt := 5) rfl rfl rfl (fun c2 => ?_) (fun c2 => ?_)
  · refine jt_go jm_m145 7 3 (f' := (14, [(0, .inl (nI x)), (1, .inl (nI y))], [.inl ((nI x) - (nI y))], h)) (P := True) rfl trivial ?_
    refine jt_ti (show ((nI x) - (nI y)) = nI (x - y) from nI_subN (by omega)) ?_
    refine jt_iret jm_m145 10 rfl ?_
    exact ⟨jt_ln (by unfold sp_ap; rw [if_neg (by omega)]), rfl⟩
  · refine jt_go jm_m145 3 3 (f' := (8, [(0, .inl (nI x)), (1, .inl (nI y))], [.inl ((nI y) - (nI x))], h)) (P := True) rfl trivial ?_
    refine jt_ti (show ((nI y) - (nI x)) = nI (y - x) from nI_subN (by omega)) ?_
    refine jt_go jm_m145 6 1 (f' := (14, [(0, .inl (nI x)), (1, .inl (nI y))], [.inl (nI (y - x))], h)) (P := True) rfl trivial ?_
    refine jt_iret jm_m145 10 rfl ?_
    exact ⟨jt_ln (by unfold sp_ap; rw [if_pos (by omega)]), rfl⟩
set_option maxHeartbeats 4000000 in
set_option maxRecDepth 20000 in
theorem tb_sideOf {h : jm_M} {p : Nat} (hp : p < 16) : jt_Pu 154 [.inl (nI p)] h (.inl (nI (sp_sd p))) := by
  show jt_T 154 (0, [(0, .inl (nI p))], [], h) _
  refine jt_go jm_m154 0 2 (f' := (3, [(0, .inl (nI p))], [.inl (nI 8), .inl (nI p)], h)) (P := True) rfl trivial ?_
  refine jt_niclt jm_m154 2 (a := p) (b := 8) (by omega) (by omega) (tgt := 10) (nxt := 6) rfl rfl rfl (fun c3 => ?_) (fun c3 => ?_)
  · refine jt_go jm_m154 5 1 (f' := (11, [(0, .inl (nI p))], [.inl (nI 0)], h)) (P := True) rfl trivial ?_
    refine jt_iret jm_m154 6 rfl ?_
    exact ⟨jt_ln (by unfold sp_sd; rw [if_pos (by omega)]), rfl⟩
  · refine jt_go jm_m154 3 2 (f' := (11, [(0, .inl (nI p))], [.inl (nI 1)], h)) (P := True) rfl trivial ?_
    refine jt_iret jm_m154 6 rfl ?_
    exact ⟨jt_ln (by unfold sp_sd; rw [if_neg (by omega)]), rfl⟩
set_option maxHeartbeats 4000000 in
set_option maxRecDepth 20000 in
theorem tb_ofC {h : jm_M} {c w k : Nat} (e : 36 + 5 * c + w = k) : jt_Pu 147 [.inl (nI c), .inl (nI w)] h (.inl (nI k)) := by
  show jt_T 147 (0, [(0, .inl (nI c)), (1, .inl (nI w))], [], h) _
  refine jt_go jm_m147 0 4 (f' := (5, [(0, .inl (nI c)), (1, .inl (nI w))], [.inl ((nI 5) * (nI c)), .inl (nI 36)], h)) (P := True) rfl trivial ?_
  refine jt_ti (show ((nI 5) * (nI c)) = nI (5 * c) from nI_mul _ _) ?_
  refine jt_go jm_m147 4 1 (f' := (6, [(0, .inl (nI c)), (1, .inl (nI w))], [.inl ((nI 36) + (nI (5 * c)))], h)) (P := True) rfl trivial ?_
  refine jt_ti (show ((nI 36) + (nI (5 * c))) = nI (36 + 5 * c) from nI_add _ _) ?_
  refine jt_go jm_m147 5 2 (f' := (8, [(0, .inl (nI c)), (1, .inl (nI w))], [.inl ((nI (36 + 5 * c)) + (nI w))], h)) (P := True) rfl trivial ?_
  refine jt_ti (show ((nI (36 + 5 * c)) + (nI w)) = nI (36 + 5 * c + w) from nI_add _ _) ?_
  refine jt_iret jm_m147 7 rfl ?_
  exact ⟨jt_ln e, rfl⟩
set_option maxHeartbeats 4000000 in
set_option maxRecDepth 20000 in
theorem tb_ofM {h : jm_M} {c w k : Nat} (e : 66 + 2 * c + w = k) : jt_Pu 148 [.inl (nI c), .inl (nI w)] h (.inl (nI k)) := by
  show jt_T 148 (0, [(0, .inl (nI c)), (1, .inl (nI w))], [], h) _
  refine jt_go jm_m148 0 4 (f' := (5, [(0, .inl (nI c)), (1, .inl (nI w))], [.inl ((nI 2) * (nI c)), .inl (nI 66)], h)) (P := True) rfl trivial ?_
  refine jt_ti (show ((nI 2) * (nI c)) = nI (2 * c) from nI_mul _ _) ?_
  refine jt_go jm_m148 4 1 (f' := (6, [(0, .inl (nI c)), (1, .inl (nI w))], [.inl ((nI 66) + (nI (2 * c)))], h)) (P := True) rfl trivial ?_
  refine jt_ti (show ((nI 66) + (nI (2 * c))) = nI (66 + 2 * c) from nI_add _ _) ?_
  refine jt_go jm_m148 5 2 (f' := (8, [(0, .inl (nI c)), (1, .inl (nI w))], [.inl ((nI (66 + 2 * c)) + (nI w))], h)) (P := True) rfl trivial ?_
  refine jt_ti (show ((nI (66 + 2 * c)) + (nI w)) = nI (66 + 2 * c + w) from nI_add _ _) ?_
  refine jt_iret jm_m148 7 rfl ?_
  exact ⟨jt_ln e, rfl⟩
set_option maxHeartbeats 4000000 in
set_option maxRecDepth 20000 in
theorem tb_place {h : jm_M} {x : Int32} : jt_Pu 151 [.inl (x)] h (.inl (jm_b (nI 0 ≤ x ∧ x ≤ nI 15))) := by
  show jt_T 151 (0, [(0, .inl (x))], [], h) _
  refine jt_go jm_m151 0 3 (f' := (4, [(0, .inl (x))], [.inl (nI 15), .inl (nI 0), .inl (x)], h)) (P := True) rfl trivial ?_
  refine jt_callp (w := .inl (jm_b ((nI 0) ≤ x ∧ x ≤ (nI 15)))) jm_m151 3 (mi' := 143) (as := [.inl (x), .inl (nI 0), .inl (nI 15)]) (rest := []) (nxt := 7) rfl rfl jm_m143 rfl rfl (tb_isIn) ?_
  refine jt_zret jm_m151 4 rfl (jm_b_01 _) ?_
  exact ⟨rfl, rfl⟩
set_option maxHeartbeats 4000000 in
set_option maxRecDepth 20000 in
theorem tb_shelf {h : jm_M} {x : Int32} : jt_Pu 227 [.inl (x)] h (.inl (jm_b (nI 0 ≤ x ∧ x ≤ nI 7))) := by
  show jt_T 227 (0, [(0, .inl (x))], [], h) _
  refine jt_go jm_m227 0 3 (f' := (4, [(0, .inl (x))], [.inl (nI 7), .inl (nI 0), .inl (x)], h)) (P := True) rfl trivial ?_
  refine jt_callp (w := .inl (jm_b ((nI 0) ≤ x ∧ x ≤ (nI 7)))) jm_m227 3 (mi' := 143) (as := [.inl (x), .inl (nI 0), .inl (nI 7)]) (rest := []) (nxt := 7) rfl rfl jm_m143 rfl rfl (tb_isIn) ?_
  refine jt_zret jm_m227 4 rfl (jm_b_01 _) ?_
  exact ⟨rfl, rfl⟩
set_option maxHeartbeats 4000000 in
set_option maxRecDepth 20000 in
theorem tb_isCat {h : jm_M} {g : Nat → Nat} (R : jg_rel h 0 g) (W : jw g) {x : Int32} : jt_Pu 149 [.inr (.inr (4, 0, 0)), .inl (x)] h (.inl (jm_b (nI 0 ≤ x ∧ x < nI (g 0)))) := by
  show jt_T 149 (0, [(0, .inr (.inr (4, 0, 0))), (1, .inl (x))], [], h) _
  refine jt_go jm_m149 0 6 (f' := (8, [(0, .inr (.inr (4, 0, 0))), (1, .inl (x))], [.inl (h (5, 0, 0) (nI 0).toNatClampNeg), .inl (nI 0), .inl (x)], h)) (P := vp_in (nI 0) 78 ∧ True) rfl ⟨(vp_in_nI (by omega) (by decide)), trivial⟩ ?_
  refine jt_ti (show (h (5, 0, 0) (nI 0).toNatClampNeg) = nI (g 0) from jg_get R (k := 0) (nI_clamp (by omega)) (by omega)) ?_
  have bq1 := jw_n W
  refine jt_go jm_m149 6 2 (f' := (10, [(0, .inr (.inr (4, 0, 0))), (1, .inl (x))], [.inl ((nI (g 0)) - (nI 1)), .inl (nI 0), .inl (x)], h)) (P := True) rfl trivial ?_
  refine jt_callp (w := .inl (jm_b (nI 0 ≤ x ∧ x ≤ (nI (g 0)) - (nI 1)))) jm_m149 8 (mi' := 143) (as := [.inl (x), .inl (nI 0), .inl ((nI (g 0)) - (nI 1))]) (rest := []) (nxt := 13) rfl rfl jm_m143 rfl rfl (tb_isIn) ?_
  refine jt_zret jm_m149 9 rfl (jm_b_01 _) ?_
  exact ⟨congrArg some (congrArg Sum.inl (jm_b_congr ⟨fun z => ⟨z.1, (jx_lt1 (by omega)).mp z.2⟩, fun z => ⟨z.1, (jx_lt1 (by omega)).mpr z.2⟩⟩)), rfl⟩
set_option maxHeartbeats 4000000 in
set_option maxRecDepth 20000 in
theorem tb_isMan {h : jm_M} {g : Nat → Nat} (R : jg_rel h 0 g) (W : jw g) {x : Int32} : jt_Pu 150 [.inr (.inr (4, 0, 0)), .inl (x)] h (.inl (jm_b (nI 0 ≤ x ∧ x < nI (g 1)))) := by
  show jt_T 150 (0, [(0, .inr (.inr (4, 0, 0))), (1, .inl (x))], [], h) _
  refine jt_go jm_m150 0 6 (f' := (8, [(0, .inr (.inr (4, 0, 0))), (1, .inl (x))], [.inl (h (5, 0, 0) (nI 1).toNatClampNeg), .inl (nI 0), .inl (x)], h)) (P := vp_in (nI 1) 78 ∧ True) rfl ⟨(vp_in_nI (by omega) (by decide)), trivial⟩ ?_
  refine jt_ti (show (h (5, 0, 0) (nI 1).toNatClampNeg) = nI (g 1) from jg_get R (k := 1) (nI_clamp (by omega)) (by omega)) ?_
  have bq1 := jw_m W
  refine jt_go jm_m150 6 2 (f' := (10, [(0, .inr (.inr (4, 0, 0))), (1, .inl (x))], [.inl ((nI (g 1)) - (nI 1)), .inl (nI 0), .inl (x)], h)) (P := True) rfl trivial ?_
  refine jt_callp (w := .inl (jm_b (nI 0 ≤ x ∧ x ≤ (nI (g 1)) - (nI 1)))) jm_m150 8 (mi' := 143) (as := [.inl (x), .inl (nI 0), .inl ((nI (g 1)) - (nI 1))]) (rest := []) (nxt := 13) rfl rfl jm_m143 rfl rfl (tb_isIn) ?_
  refine jt_zret jm_m150 9 rfl (jm_b_01 _) ?_
  exact ⟨congrArg some (congrArg Sum.inl (jm_b_congr ⟨fun z => ⟨z.1, (jx_lt1 (by omega)).mp z.2⟩, fun z => ⟨z.1, (jx_lt1 (by omega)).mpr z.2⟩⟩)), rfl⟩
set_option maxHeartbeats 4000000 in
set_option maxRecDepth 20000 in
theorem tb_most_l {h : jm_M} {a o fm : Nat} {g : Nat → Nat} (R : jg_rel h a g) (ho : o ≤ 20) (hb : ∀ p, p < 16 → g (o + p) ≤ 9) (hf : fm < 16) : ∀ k, k ≤ 16 → jt_T 155 (8, [(0, .inr (.inr (5, a, 0))), (1, .inl (nI o)), (2, .inl (nI fm)), (3, .inl (nI ((sp_most g o fm k).1))), (4, .inl (nI ((sp_most g o fm k).2))), (5, .inl (nI k))], [], h) (fun u h' => u = some (.inl (nI (sp_most g o fm 16).1)) ∧ h' = h) := jx_up (fun k hk nx => by
  have hs := sp_most_lt g o fm hf k hk
  have hs2 : (sp_most g o fm k).2 ≤ 9 := by
    rcases sp_most_nb g o fm k with ⟨_, h2, _⟩ | ⟨h1, h2, _⟩
    · omega
    · have := hb _ (show (sp_most g o fm k).1 < 16 by omega); omega
  refine jt_go jm_m155 6 2 (f' := (12, [(0, .inr (.inr (5, a, 0))), (1, .inl (nI o)), (2, .inl (nI fm)), (3, .inl (nI ((sp_most g o fm k).1))), (4, .inl (nI ((sp_most g o fm k).2))), (5, .inl (nI k))], [.inl (nI 16), .inl (nI k)], h)) (P := True) rfl trivial ?_
  refine jt_nicge jm_m155 8 (a := k) (b := 16) (by omega) (by omega) (tgt := 72) (nxt := 15) rfl rfl rfl (fun c12 => ?_) (fun c12 => ?_)
  · refine jt_go jm_m155 37 1 (f' := (73, [(0, .inr (.inr (5, a, 0))), (1, .inl (nI o)), (2, .inl (nI fm)), (3, .inl (nI ((sp_most g o fm k).1))), (4, .inl (nI ((sp_most g o fm k).2))), (5, .inl (nI k))], [.inl (nI ((sp_most g o fm k).1))], h)) (P := True) rfl trivial ?_
    refine jt_iret jm_m155 38 rfl ?_
    have e : k = 16 := by omega
    subst e
    exact ⟨rfl, rfl⟩
  · refine jt_go jm_m155 9 4 (f' := (20, [(0, .inr (.inr (5, a, 0))), (1, .inl (nI o)), (2, .inl (nI fm)), (3, .inl (nI ((sp_most g o fm k).1))), (4, .inl (nI ((sp_most g o fm k).2))), (5, .inl (nI k))], [.inl ((nI o) + (nI k)), .inr (.inr (5, a, 0))], h)) (P := True) rfl trivial ?_
    refine jt_ti (show ((nI o) + (nI k)) = nI (o + k) from nI_add _ _) ?_
    refine jt_go jm_m155 13 1 (f' := (21, [(0, .inr (.inr (5, a, 0))), (1, .inl (nI o)), (2, .inl (nI fm)), (3, .inl (nI ((sp_most g o fm k).1))), (4, .inl (nI ((sp_most g o fm k).2))), (5, .inl (nI k))], [.inl (h (5, a, 0) (nI (o + k)).toNatClampNeg)], h)) (P := vp_in (nI (o + k)) 78 ∧ True) rfl ⟨(vp_in_nI (by omega) (by decide)), trivial⟩ ?_
    refine jt_ti (show (h (5, a, 0) (nI (o + k)).toNatClampNeg) = nI (g (o + k)) from by rw [nI_clamp (by omega)]; exact R _ (by omega)) ?_
    have bv := hb k (by omega)
    refine jt_go jm_m155 14 2 (f' := (25, [(6, .inl (nI (g (o + k)))), (0, .inr (.inr (5, a, 0))), (1, .inl (nI o)), (2, .inl (nI fm)), (3, .inl (nI ((sp_most g o fm k).1))), (4, .inl (nI ((sp_most g o fm k).2))), (5, .inl (nI k))], [.inl (nI (g (o + k)))], h)) (P := True) rfl trivial ?_
    refine jt_nifeq jm_m155 16 (by omega) (tgt := 66) (nxt := 28) rfl rfl rfl (fun c25 => ?_) (fun c25 => ?_)
    · refine jt_inc jm_m155 35 (c := k) (L' := [(5, .inl (nI (k + 1))), (6, .inl (nI (g (o + k)))), (0, .inr (.inr (5, a, 0))), (1, .inl (nI o)), (2, .inl (nI fm)), (3, .inl (nI ((sp_most g o fm k).1))), (4, .inl (nI ((sp_most g o fm k).2)))]) rfl rfl rfl rfl ?_
      refine jt_go jm_m155 36 1 (f' := (8, [(5, .inl (nI (k + 1))), (6, .inl (nI (g (o + k)))), (0, .inr (.inr (5, a, 0))), (1, .inl (nI o)), (2, .inl (nI fm)), (3, .inl (nI ((sp_most g o fm k).1))), (4, .inl (nI ((sp_most g o fm k).2)))], [], h)) (P := True) rfl trivial ?_
      refine jt_pick (L' := [(0, .inr (.inr (5, a, 0))), (1, .inl (nI o)), (2, .inl (nI fm)), (3, .inl (nI ((sp_most g o fm k).1))), (4, .inl (nI ((sp_most g o fm k).2))), (5, .inl (nI (k + 1)))]) [2, 3, 4, 5, 6, 0] rfl ?_
      have e : sp_most g o fm (k + 1) = sp_most g o fm k := if_pos (by omega)
      have q := nx c12
      rw [e] at q
      exact q
    · refine jt_go jm_m155 17 2 (f' := (32, [(6, .inl (nI (g (o + k)))), (0, .inr (.inr (5, a, 0))), (1, .inl (nI o)), (2, .inl (nI fm)), (3, .inl (nI ((sp_most g o fm k).1))), (4, .inl (nI ((sp_most g o fm k).2))), (5, .inl (nI k))], [.inl (nI ((sp_most g o fm k).2)), .inl (nI (g (o + k)))], h)) (P := True) rfl trivial ?_
      refine jt_niclt jm_m155 19 (a := g (o + k)) (b := (sp_most g o fm k).2) (by omega) (by omega) (tgt := 66) (nxt := 35) rfl rfl rfl (fun c32 => ?_) (fun c32 => ?_)
      · refine jt_inc jm_m155 35 (c := k) (L' := [(5, .inl (nI (k + 1))), (6, .inl (nI (g (o + k)))), (0, .inr (.inr (5, a, 0))), (1, .inl (nI o)), (2, .inl (nI fm)), (3, .inl (nI ((sp_most g o fm k).1))), (4, .inl (nI ((sp_most g o fm k).2)))]) rfl rfl rfl rfl ?_
        refine jt_go jm_m155 36 1 (f' := (8, [(5, .inl (nI (k + 1))), (6, .inl (nI (g (o + k)))), (0, .inr (.inr (5, a, 0))), (1, .inl (nI o)), (2, .inl (nI fm)), (3, .inl (nI ((sp_most g o fm k).1))), (4, .inl (nI ((sp_most g o fm k).2)))], [], h)) (P := True) rfl trivial ?_
        refine jt_pick (L' := [(0, .inr (.inr (5, a, 0))), (1, .inl (nI o)), (2, .inl (nI fm)), (3, .inl (nI ((sp_most g o fm k).1))), (4, .inl (nI ((sp_most g o fm k).2))), (5, .inl (nI (k + 1)))]) [2, 3, 4, 5, 6, 0] rfl ?_
        have e : sp_most g o fm (k + 1) = sp_most g o fm k := if_pos (by omega)
        have q := nx c12
        rw [e] at q
        exact q
      · refine jt_go jm_m155 20 2 (f' := (39, [(6, .inl (nI (g (o + k)))), (0, .inr (.inr (5, a, 0))), (1, .inl (nI o)), (2, .inl (nI fm)), (3, .inl (nI ((sp_most g o fm k).1))), (4, .inl (nI ((sp_most g o fm k).2))), (5, .inl (nI k))], [.inl (nI ((sp_most g o fm k).2)), .inl (nI (g (o + k)))], h)) (P := True) rfl trivial ?_
        refine jt_nicne jm_m155 22 (a := g (o + k)) (b := (sp_most g o fm k).2) (by omega) (by omega) (tgt := 59) (nxt := 42) rfl rfl rfl (fun c39 => ?_) (fun c39 => ?_)
        · refine jt_go jm_m155 31 4 (f' := (66, [(4, .inl (nI (g (o + k)))), (3, .inl (nI k)), (6, .inl (nI (g (o + k)))), (0, .inr (.inr (5, a, 0))), (1, .inl (nI o)), (2, .inl (nI fm)), (5, .inl (nI k))], [], h)) (P := True) rfl trivial ?_
          refine jt_inc jm_m155 35 (c := k) (L' := [(5, .inl (nI (k + 1))), (4, .inl (nI (g (o + k)))), (3, .inl (nI k)), (6, .inl (nI (g (o + k)))), (0, .inr (.inr (5, a, 0))), (1, .inl (nI o)), (2, .inl (nI fm))]) rfl rfl rfl rfl ?_
          refine jt_go jm_m155 36 1 (f' := (8, [(5, .inl (nI (k + 1))), (4, .inl (nI (g (o + k)))), (3, .inl (nI k)), (6, .inl (nI (g (o + k)))), (0, .inr (.inr (5, a, 0))), (1, .inl (nI o)), (2, .inl (nI fm))], [], h)) (P := True) rfl trivial ?_
          refine jt_pick (L' := [(0, .inr (.inr (5, a, 0))), (1, .inl (nI o)), (2, .inl (nI fm)), (3, .inl (nI k)), (4, .inl (nI (g (o + k)))), (5, .inl (nI (k + 1)))]) [4, 5, 6, 2, 1, 0] rfl ?_
          have e : sp_most g o fm (k + 1) = (k, g (o + k)) := if_neg (by omega)
          have q := nx c12
          rw [e] at q
          exact q
        · refine jt_go jm_m155 23 2 (f' := (45, [(6, .inl (nI (g (o + k)))), (0, .inr (.inr (5, a, 0))), (1, .inl (nI o)), (2, .inl (nI fm)), (3, .inl (nI ((sp_most g o fm k).1))), (4, .inl (nI ((sp_most g o fm k).2))), (5, .inl (nI k))], [.inl (nI fm), .inl (nI k)], h)) (P := True) rfl trivial ?_
          refine jt_callp (w := .inl (nI (sp_ap k fm))) jm_m155 25 (mi' := 145) (as := [.inl (nI k), .inl (nI fm)]) (rest := []) (nxt := 48) rfl rfl jm_m145 rfl rfl (tb_apart (by omega) (by omega)) ?_
          have bq1 : sp_ap k fm < 16 := sp_ap_lt (by omega) (by omega)
          refine jt_go jm_m155 26 2 (f' := (50, [(6, .inl (nI (g (o + k)))), (0, .inr (.inr (5, a, 0))), (1, .inl (nI o)), (2, .inl (nI fm)), (3, .inl (nI ((sp_most g o fm k).1))), (4, .inl (nI ((sp_most g o fm k).2))), (5, .inl (nI k))], [.inl (nI fm), .inl (nI ((sp_most g o fm k).1)), .inl (nI (sp_ap k fm))], h)) (P := True) rfl trivial ?_
          refine jt_callp (w := .inl (nI (sp_ap ((sp_most g o fm k).1) fm))) jm_m155 28 (mi' := 145) (as := [.inl (nI ((sp_most g o fm k).1)), .inl (nI fm)]) (rest := [.inl (nI (sp_ap k fm))]) (nxt := 53) rfl rfl jm_m145 rfl rfl (tb_apart (by omega) (by omega)) ?_
          have bq2 : sp_ap ((sp_most g o fm k).1) fm < 16 := sp_ap_lt (by omega) (by omega)
          refine jt_niclt jm_m155 29 (a := sp_ap k fm) (b := sp_ap ((sp_most g o fm k).1) fm) (by omega) (by omega) (tgt := 59) (nxt := 56) rfl rfl rfl (fun c53 => ?_) (fun c53 => ?_)
          · refine jt_go jm_m155 31 4 (f' := (66, [(4, .inl (nI (g (o + k)))), (3, .inl (nI k)), (6, .inl (nI (g (o + k)))), (0, .inr (.inr (5, a, 0))), (1, .inl (nI o)), (2, .inl (nI fm)), (5, .inl (nI k))], [], h)) (P := True) rfl trivial ?_
            refine jt_inc jm_m155 35 (c := k) (L' := [(5, .inl (nI (k + 1))), (4, .inl (nI (g (o + k)))), (3, .inl (nI k)), (6, .inl (nI (g (o + k)))), (0, .inr (.inr (5, a, 0))), (1, .inl (nI o)), (2, .inl (nI fm))]) rfl rfl rfl rfl ?_
            refine jt_go jm_m155 36 1 (f' := (8, [(5, .inl (nI (k + 1))), (4, .inl (nI (g (o + k)))), (3, .inl (nI k)), (6, .inl (nI (g (o + k)))), (0, .inr (.inr (5, a, 0))), (1, .inl (nI o)), (2, .inl (nI fm))], [], h)) (P := True) rfl trivial ?_
            refine jt_pick (L' := [(0, .inr (.inr (5, a, 0))), (1, .inl (nI o)), (2, .inl (nI fm)), (3, .inl (nI k)), (4, .inl (nI (g (o + k)))), (5, .inl (nI (k + 1)))]) [4, 5, 6, 2, 1, 0] rfl ?_
            have e : sp_most g o fm (k + 1) = (k, g (o + k)) := if_neg (by omega)
            have q := nx c12
            rw [e] at q
            exact q
          · refine jt_go jm_m155 30 1 (f' := (66, [(6, .inl (nI (g (o + k)))), (0, .inr (.inr (5, a, 0))), (1, .inl (nI o)), (2, .inl (nI fm)), (3, .inl (nI ((sp_most g o fm k).1))), (4, .inl (nI ((sp_most g o fm k).2))), (5, .inl (nI k))], [], h)) (P := True) rfl trivial ?_
            refine jt_inc jm_m155 35 (c := k) (L' := [(5, .inl (nI (k + 1))), (6, .inl (nI (g (o + k)))), (0, .inr (.inr (5, a, 0))), (1, .inl (nI o)), (2, .inl (nI fm)), (3, .inl (nI ((sp_most g o fm k).1))), (4, .inl (nI ((sp_most g o fm k).2)))]) rfl rfl rfl rfl ?_
            refine jt_go jm_m155 36 1 (f' := (8, [(5, .inl (nI (k + 1))), (6, .inl (nI (g (o + k)))), (0, .inr (.inr (5, a, 0))), (1, .inl (nI o)), (2, .inl (nI fm)), (3, .inl (nI ((sp_most g o fm k).1))), (4, .inl (nI ((sp_most g o fm k).2)))], [], h)) (P := True) rfl trivial ?_
            refine jt_pick (L' := [(0, .inr (.inr (5, a, 0))), (1, .inl (nI o)), (2, .inl (nI fm)), (3, .inl (nI ((sp_most g o fm k).1))), (4, .inl (nI ((sp_most g o fm k).2))), (5, .inl (nI (k + 1)))]) [2, 3, 4, 5, 6, 0] rfl ?_
            have e : sp_most g o fm (k + 1) = sp_most g o fm k := if_pos (by omega)
            have q := nx c12
            rw [e] at q
            exact q)
set_option maxHeartbeats 4000000 in
set_option maxRecDepth 20000 in
theorem tb_most {h : jm_M} {a o fm : Nat} {g : Nat → Nat} (R : jg_rel h a g) (ho : o ≤ 20) (hb : ∀ p, p < 16 → g (o + p) ≤ 9) (hf : fm < 16) : jt_Pu 155 [.inr (.inr (5, a, 0)), .inl (nI o), .inl (nI fm)] h (.inl (nI (sp_rich g o fm 16))) := by
  rw [← sp_most_rich g o fm hf]
  show jt_T 155 (0, [(0, .inr (.inr (5, a, 0))), (1, .inl (nI o)), (2, .inl (nI fm))], [], h) _
  refine jt_go jm_m155 0 6 (f' := (8, [(5, .inl (nI 0)), (4, .inl (nI 0)), (3, .inl (nI fm)), (0, .inr (.inr (5, a, 0))), (1, .inl (nI o)), (2, .inl (nI fm))], [], h)) (P := True) rfl trivial ?_
  refine jt_pick (L' := [(0, .inr (.inr (5, a, 0))), (1, .inl (nI o)), (2, .inl (nI fm)), (3, .inl (nI fm)), (4, .inl (nI 0)), (5, .inl (nI 0))]) [3, 4, 5, 2, 1, 0] rfl ?_
  exact tb_most_l R ho hb hf 0 (Nat.zero_le _)
set_option maxHeartbeats 4000000 in
set_option maxRecDepth 20000 in
theorem tb_near_l {h : jm_M} {a : Nat} {g : Nat → Nat} (R : jg_rel h a g) (W : jw g) {c : Nat} (hc : c < g 0) : ∀ k, k ≤ g 0 → jt_T 156 (14, [(0, .inr (.inr (5, a, 0))), (1, .inl (nI c)), (2, .inl (nI (g (38 + 5 * c)))), (3, .inl (jo (sp_nr g c k))), (4, .inl (nI k))], [], h) (fun u h' => u = some (.inl (nI (g (38 + 5 * (sp_near g c (g 0)).1)))) ∧ h' = h) := jx_up (P := fun k => jt_T 156 (14, [(0, .inr (.inr (5, a, 0))), (1, .inl (nI c)), (2, .inl (nI (g (38 + 5 * c)))), (3, .inl (jo (sp_nr g c k))), (4, .inl (nI k))], [], h) (fun u h' => u = some (.inl (nI (g (38 + 5 * (sp_near g c (g 0)).1)))) ∧ h' = h)) (fun k hk nx   => by
  have bn := jw_n W
  have bm := jw_m W
  have bt := jw_t W
  have ba := jw_at W (c := c) (by omega)
  rcases sp_near_ap W (c := c) (by omega) k (by omega) with ⟨h1, hA, h2⟩ | ⟨h1, h2, h3⟩
  · have en : sp_nr g c k = none := if_pos h1
    rw [en]
    show jt_T 156 (14, [(0, .inr (.inr (5, a, 0))), (1, .inl (nI c)), (2, .inl (nI (g (38 + 5 * c)))), (3, .inl ((-4))), (4, .inl (nI k))], [], h) _
    refine jt_go jm_m156 10 4 (f' := (19, [(0, .inr (.inr (5, a, 0))), (1, .inl (nI c)), (2, .inl (nI (g (38 + 5 * c)))), (3, .inl ((-4))), (4, .inl (nI k))], [.inl (h (5, a, 0) (nI 0).toNatClampNeg), .inl (nI k)], h)) (P := vp_in (nI 0) 78 ∧ True) rfl ⟨(vp_in_nI (by omega) (by decide)), trivial⟩ ?_
    refine jt_ti (show (h (5, a, 0) (nI 0).toNatClampNeg) = nI (g 0) from jg_get R (k := 0) (nI_clamp (by omega)) (by omega)) ?_
    have bq1 := jw_n W
    refine jt_nicge jm_m156 14 (a := k) (b := g 0) (by omega) (by omega) (tgt := 67) (nxt := 22) rfl rfl rfl (fun c19 => ?_) (fun c19 => ?_)
    · refine jt_go jm_m156 39 1 (f' := (68, [(0, .inr (.inr (5, a, 0))), (1, .inl (nI c)), (2, .inl (nI (g (38 + 5 * c)))), (3, .inl ((-4))), (4, .inl (nI k))], [.inl ((-4))], h)) (P := True) rfl trivial ?_
      refine jt_ifge jm_m156 40 (tgt := 75) (nxt := 71) rfl rfl rfl (fun c68 => ?_) (fun c68 => ?_)
      · exact absurd c68 (by decide)
      · refine jt_go jm_m156 41 2 (f' := (82, [(0, .inr (.inr (5, a, 0))), (1, .inl (nI c)), (2, .inl (nI (g (38 + 5 * c)))), (3, .inl ((-4))), (4, .inl (nI k))], [.inl (nI (g (38 + 5 * c)))], h)) (P := True) rfl trivial ?_
        refine jt_iret jm_m156 48 rfl ?_
        have e : k = g 0 := by omega
        subst e
        exact ⟨jt_ln (by rw [hA]), rfl⟩
    · refine jt_go jm_m156 15 2 (f' := (25, [(0, .inr (.inr (5, a, 0))), (1, .inl (nI c)), (2, .inl (nI (g (38 + 5 * c)))), (3, .inl ((-4))), (4, .inl (nI k))], [.inl (nI c), .inl (nI k)], h)) (P := True) rfl trivial ?_
      refine jt_niceq jm_m156 17 (a := k) (b := c) (by omega) (by omega) (tgt := 61) (nxt := 28) rfl rfl rfl (fun c25 => ?_) (fun c25 => ?_)
      · refine jt_inc jm_m156 37 (c := k) (L' := [(4, .inl (nI (k + 1))), (0, .inr (.inr (5, a, 0))), (1, .inl (nI c)), (2, .inl (nI (g (38 + 5 * c)))), (3, .inl ((-4)))]) rfl rfl rfl rfl ?_
        refine jt_go jm_m156 38 1 (f' := (14, [(4, .inl (nI (k + 1))), (0, .inr (.inr (5, a, 0))), (1, .inl (nI c)), (2, .inl (nI (g (38 + 5 * c)))), (3, .inl ((-4)))], [], h)) (P := True) rfl trivial ?_
        refine jt_pick (L' := [(0, .inr (.inr (5, a, 0))), (1, .inl (nI c)), (2, .inl (nI (g (38 + 5 * c)))), (3, .inl ((-4))), (4, .inl (nI (k + 1)))]) [1, 2, 3, 4, 0] rfl ?_
        have e : sp_near g c (k + 1) = sp_near g c k := if_neg (by omega)
        have e2 : sp_nr g c (k + 1) = sp_nr g c k := by unfold sp_nr; rw [e]
        have q := nx c19
        rw [e2, en] at q
        exact q
      · refine jt_go jm_m156 18 1 (f' := (29, [(0, .inr (.inr (5, a, 0))), (1, .inl (nI c)), (2, .inl (nI (g (38 + 5 * c)))), (3, .inl ((-4))), (4, .inl (nI k))], [.inl ((-4))], h)) (P := True) rfl trivial ?_
        refine jt_iflt jm_m156 19 (tgt := 58) (nxt := 32) rfl rfl rfl (fun c29 => ?_) (fun c29 => ?_)
        · refine jt_go jm_m156 35 2 (f' := (61, [(3, .inl (nI k)), (0, .inr (.inr (5, a, 0))), (1, .inl (nI c)), (2, .inl (nI (g (38 + 5 * c)))), (4, .inl (nI k))], [], h)) (P := True) rfl trivial ?_
          refine jt_inc jm_m156 37 (c := k) (L' := [(4, .inl (nI (k + 1))), (3, .inl (nI k)), (0, .inr (.inr (5, a, 0))), (1, .inl (nI c)), (2, .inl (nI (g (38 + 5 * c))))]) rfl rfl rfl rfl ?_
          refine jt_go jm_m156 38 1 (f' := (14, [(4, .inl (nI (k + 1))), (3, .inl (nI k)), (0, .inr (.inr (5, a, 0))), (1, .inl (nI c)), (2, .inl (nI (g (38 + 5 * c))))], [], h)) (P := True) rfl trivial ?_
          refine jt_pick (L' := [(0, .inr (.inr (5, a, 0))), (1, .inl (nI c)), (2, .inl (nI (g (38 + 5 * c)))), (3, .inl (nI k)), (4, .inl (nI (k + 1)))]) [2, 3, 4, 1, 0] rfl ?_
          have e : sp_near g c (k + 1) = (k, sp_ap (g (38 + 5 * k)) (g (38 + 5 * c))) := if_pos (by have := sp_ap_lt (jw_at W (c := k) (by omega)) (jw_at W (c := c) (by omega)); omega)
          have e2 : sp_nr g c (k + 1) = some k := by unfold sp_nr; rw [e]; exact if_neg (by dsimp only; have := sp_ap_lt (jw_at W (c := k) (by omega)) (jw_at W (c := c) (by omega)); omega)
          have q := nx c19
          rw [e2] at q
          exact q
        · exact absurd c29 (by decide)
  · have en : sp_nr g c k = some (sp_near g c k).1 := if_neg (by omega)
    rw [en]
    show jt_T 156 (14, [(0, .inr (.inr (5, a, 0))), (1, .inl (nI c)), (2, .inl (nI (g (38 + 5 * c)))), (3, .inl (nI ((sp_near g c k).1))), (4, .inl (nI k))], [], h) _
    refine jt_go jm_m156 10 4 (f' := (19, [(0, .inr (.inr (5, a, 0))), (1, .inl (nI c)), (2, .inl (nI (g (38 + 5 * c)))), (3, .inl (nI ((sp_near g c k).1))), (4, .inl (nI k))], [.inl (h (5, a, 0) (nI 0).toNatClampNeg), .inl (nI k)], h)) (P := vp_in (nI 0) 78 ∧ True) rfl ⟨(vp_in_nI (by omega) (by decide)), trivial⟩ ?_
    refine jt_ti (show (h (5, a, 0) (nI 0).toNatClampNeg) = nI (g 0) from jg_get R (k := 0) (nI_clamp (by omega)) (by omega)) ?_
    have bq1 := jw_n W
    refine jt_nicge jm_m156 14 (a := k) (b := g 0) (by omega) (by omega) (tgt := 67) (nxt := 22) rfl rfl rfl (fun c19 => ?_) (fun c19 => ?_)
    · refine jt_go jm_m156 39 1 (f' := (68, [(0, .inr (.inr (5, a, 0))), (1, .inl (nI c)), (2, .inl (nI (g (38 + 5 * c)))), (3, .inl (nI ((sp_near g c k).1))), (4, .inl (nI k))], [.inl (nI ((sp_near g c k).1))], h)) (P := True) rfl trivial ?_
      refine jt_nifge jm_m156 40 (by omega) rfl rfl rfl (fun _ => ?_)
      refine jt_go jm_m156 43 3 (f' := (78, [(0, .inr (.inr (5, a, 0))), (1, .inl (nI c)), (2, .inl (nI (g (38 + 5 * c)))), (3, .inl (nI ((sp_near g c k).1))), (4, .inl (nI k))], [.inl (nI 2), .inl (nI ((sp_near g c k).1)), .inr (.inr (5, a, 0))], h)) (P := True) rfl trivial ?_
      refine jt_callp (w := .inl (nI (38 + 5 * ((sp_near g c k).1)))) jm_m156 46 (mi' := 147) (as := [.inl (nI ((sp_near g c k).1)), .inl (nI 2)]) (rest := [.inr (.inr (5, a, 0))]) (nxt := 81) rfl rfl jm_m147 rfl rfl (tb_ofC (k := 38 + 5 * ((sp_near g c k).1)) (by omega)) ?_
      refine jt_go jm_m156 47 1 (f' := (82, [(0, .inr (.inr (5, a, 0))), (1, .inl (nI c)), (2, .inl (nI (g (38 + 5 * c)))), (3, .inl (nI ((sp_near g c k).1))), (4, .inl (nI k))], [.inl (h (5, a, 0) (nI (38 + 5 * ((sp_near g c k).1))).toNatClampNeg)], h)) (P := vp_in (nI (38 + 5 * ((sp_near g c k).1))) 78 ∧ True) rfl ⟨(vp_in_nI (by omega) (by decide)), trivial⟩ ?_
      refine jt_ti (show (h (5, a, 0) (nI (38 + 5 * ((sp_near g c k).1))).toNatClampNeg) = nI (g (38 + 5 * ((sp_near g c k).1))) from jg_get R (k := 38 + 5 * ((sp_near g c k).1)) (nI_clamp (by omega)) (by omega)) ?_
      have bq2 := jw_at W (c := ((sp_near g c k).1)) (by omega)
      refine jt_iret jm_m156 48 rfl ?_
      have e : k = g 0 := by omega
      subst e
      exact ⟨rfl, rfl⟩
    · refine jt_go jm_m156 15 2 (f' := (25, [(0, .inr (.inr (5, a, 0))), (1, .inl (nI c)), (2, .inl (nI (g (38 + 5 * c)))), (3, .inl (nI ((sp_near g c k).1))), (4, .inl (nI k))], [.inl (nI c), .inl (nI k)], h)) (P := True) rfl trivial ?_
      refine jt_niceq jm_m156 17 (a := k) (b := c) (by omega) (by omega) (tgt := 61) (nxt := 28) rfl rfl rfl (fun c25 => ?_) (fun c25 => ?_)
      · refine jt_inc jm_m156 37 (c := k) (L' := [(4, .inl (nI (k + 1))), (0, .inr (.inr (5, a, 0))), (1, .inl (nI c)), (2, .inl (nI (g (38 + 5 * c)))), (3, .inl (nI ((sp_near g c k).1)))]) rfl rfl rfl rfl ?_
        refine jt_go jm_m156 38 1 (f' := (14, [(4, .inl (nI (k + 1))), (0, .inr (.inr (5, a, 0))), (1, .inl (nI c)), (2, .inl (nI (g (38 + 5 * c)))), (3, .inl (nI ((sp_near g c k).1)))], [], h)) (P := True) rfl trivial ?_
        refine jt_pick (L' := [(0, .inr (.inr (5, a, 0))), (1, .inl (nI c)), (2, .inl (nI (g (38 + 5 * c)))), (3, .inl (nI ((sp_near g c k).1))), (4, .inl (nI (k + 1)))]) [1, 2, 3, 4, 0] rfl ?_
        have e : sp_near g c (k + 1) = sp_near g c k := if_neg (by omega)
        have e2 : sp_nr g c (k + 1) = sp_nr g c k := by unfold sp_nr; rw [e]
        have q := nx c19
        rw [e2, en] at q
        exact q
      · refine jt_go jm_m156 18 1 (f' := (29, [(0, .inr (.inr (5, a, 0))), (1, .inl (nI c)), (2, .inl (nI (g (38 + 5 * c)))), (3, .inl (nI ((sp_near g c k).1))), (4, .inl (nI k))], [.inl (nI ((sp_near g c k).1))], h)) (P := True) rfl trivial ?_
        refine jt_niflt jm_m156 19 (by omega) rfl rfl rfl (fun _ => ?_)
        refine jt_go jm_m156 20 3 (f' := (36, [(0, .inr (.inr (5, a, 0))), (1, .inl (nI c)), (2, .inl (nI (g (38 + 5 * c)))), (3, .inl (nI ((sp_near g c k).1))), (4, .inl (nI k))], [.inl (nI 2), .inl (nI k), .inr (.inr (5, a, 0))], h)) (P := True) rfl trivial ?_
        refine jt_callp (w := .inl (nI (38 + 5 * k))) jm_m156 23 (mi' := 147) (as := [.inl (nI k), .inl (nI 2)]) (rest := [.inr (.inr (5, a, 0))]) (nxt := 39) rfl rfl jm_m147 rfl rfl (tb_ofC (k := 38 + 5 * k) (by omega)) ?_
        refine jt_go jm_m156 24 1 (f' := (40, [(0, .inr (.inr (5, a, 0))), (1, .inl (nI c)), (2, .inl (nI (g (38 + 5 * c)))), (3, .inl (nI ((sp_near g c k).1))), (4, .inl (nI k))], [.inl (h (5, a, 0) (nI (38 + 5 * k)).toNatClampNeg)], h)) (P := vp_in (nI (38 + 5 * k)) 78 ∧ True) rfl ⟨(vp_in_nI (by omega) (by decide)), trivial⟩ ?_
        refine jt_ti (show (h (5, a, 0) (nI (38 + 5 * k)).toNatClampNeg) = nI (g (38 + 5 * k)) from jg_get R (k := 38 + 5 * k) (nI_clamp (by omega)) (by omega)) ?_
        have bq3 := jw_at W (c := k) (by omega)
        refine jt_go jm_m156 25 1 (f' := (41, [(0, .inr (.inr (5, a, 0))), (1, .inl (nI c)), (2, .inl (nI (g (38 + 5 * c)))), (3, .inl (nI ((sp_near g c k).1))), (4, .inl (nI k))], [.inl (nI (g (38 + 5 * c))), .inl (nI (g (38 + 5 * k)))], h)) (P := True) rfl trivial ?_
        refine jt_callp (w := .inl (nI (sp_ap (g (38 + 5 * k)) (g (38 + 5 * c))))) jm_m156 26 (mi' := 145) (as := [.inl (nI (g (38 + 5 * k))), .inl (nI (g (38 + 5 * c)))]) (rest := []) (nxt := 44) rfl rfl jm_m145 rfl rfl (tb_apart (by omega) (by omega)) ?_
        have bq4 : sp_ap (g (38 + 5 * k)) (g (38 + 5 * c)) < 16 := sp_ap_lt (by omega) (by omega)
        refine jt_go jm_m156 27 3 (f' := (47, [(0, .inr (.inr (5, a, 0))), (1, .inl (nI c)), (2, .inl (nI (g (38 + 5 * c)))), (3, .inl (nI ((sp_near g c k).1))), (4, .inl (nI k))], [.inl (nI 2), .inl (nI ((sp_near g c k).1)), .inr (.inr (5, a, 0)), .inl (nI (sp_ap (g (38 + 5 * k)) (g (38 + 5 * c))))], h)) (P := True) rfl trivial ?_
        refine jt_callp (w := .inl (nI (38 + 5 * ((sp_near g c k).1)))) jm_m156 30 (mi' := 147) (as := [.inl (nI ((sp_near g c k).1)), .inl (nI 2)]) (rest := [.inr (.inr (5, a, 0)), .inl (nI (sp_ap (g (38 + 5 * k)) (g (38 + 5 * c))))]) (nxt := 50) rfl rfl jm_m147 rfl rfl (tb_ofC (k := 38 + 5 * ((sp_near g c k).1)) (by omega)) ?_
        refine jt_go jm_m156 31 1 (f' := (51, [(0, .inr (.inr (5, a, 0))), (1, .inl (nI c)), (2, .inl (nI (g (38 + 5 * c)))), (3, .inl (nI ((sp_near g c k).1))), (4, .inl (nI k))], [.inl (h (5, a, 0) (nI (38 + 5 * ((sp_near g c k).1))).toNatClampNeg), .inl (nI (sp_ap (g (38 + 5 * k)) (g (38 + 5 * c))))], h)) (P := vp_in (nI (38 + 5 * ((sp_near g c k).1))) 78 ∧ True) rfl ⟨(vp_in_nI (by omega) (by decide)), trivial⟩ ?_
        refine jt_ti (show (h (5, a, 0) (nI (38 + 5 * ((sp_near g c k).1))).toNatClampNeg) = nI (g (38 + 5 * ((sp_near g c k).1))) from jg_get R (k := 38 + 5 * ((sp_near g c k).1)) (nI_clamp (by omega)) (by omega)) ?_
        have bq5 := jw_at W (c := ((sp_near g c k).1)) (by omega)
        refine jt_go jm_m156 32 1 (f' := (52, [(0, .inr (.inr (5, a, 0))), (1, .inl (nI c)), (2, .inl (nI (g (38 + 5 * c)))), (3, .inl (nI ((sp_near g c k).1))), (4, .inl (nI k))], [.inl (nI (g (38 + 5 * c))), .inl (nI (g (38 + 5 * ((sp_near g c k).1)))), .inl (nI (sp_ap (g (38 + 5 * k)) (g (38 + 5 * c))))], h)) (P := True) rfl trivial ?_
        refine jt_callp (w := .inl (nI (sp_ap (g (38 + 5 * ((sp_near g c k).1))) (g (38 + 5 * c))))) jm_m156 33 (mi' := 145) (as := [.inl (nI (g (38 + 5 * ((sp_near g c k).1)))), .inl (nI (g (38 + 5 * c)))]) (rest := [.inl (nI (sp_ap (g (38 + 5 * k)) (g (38 + 5 * c))))]) (nxt := 55) rfl rfl jm_m145 rfl rfl (tb_apart (by omega) (by omega)) ?_
        have bq6 : sp_ap (g (38 + 5 * ((sp_near g c k).1))) (g (38 + 5 * c)) < 16 := sp_ap_lt (by omega) (by omega)
        refine jt_nicge jm_m156 34 (a := sp_ap (g (38 + 5 * k)) (g (38 + 5 * c))) (b := sp_ap (g (38 + 5 * ((sp_near g c k).1))) (g (38 + 5 * c))) (by omega) (by omega) (tgt := 61) (nxt := 58) rfl rfl rfl (fun c55 => ?_) (fun c55 => ?_)
        · refine jt_inc jm_m156 37 (c := k) (L' := [(4, .inl (nI (k + 1))), (0, .inr (.inr (5, a, 0))), (1, .inl (nI c)), (2, .inl (nI (g (38 + 5 * c)))), (3, .inl (nI ((sp_near g c k).1)))]) rfl rfl rfl rfl ?_
          refine jt_go jm_m156 38 1 (f' := (14, [(4, .inl (nI (k + 1))), (0, .inr (.inr (5, a, 0))), (1, .inl (nI c)), (2, .inl (nI (g (38 + 5 * c)))), (3, .inl (nI ((sp_near g c k).1)))], [], h)) (P := True) rfl trivial ?_
          refine jt_pick (L' := [(0, .inr (.inr (5, a, 0))), (1, .inl (nI c)), (2, .inl (nI (g (38 + 5 * c)))), (3, .inl (nI ((sp_near g c k).1))), (4, .inl (nI (k + 1)))]) [1, 2, 3, 4, 0] rfl ?_
          have e : sp_near g c (k + 1) = sp_near g c k := if_neg (by omega)
          have e2 : sp_nr g c (k + 1) = sp_nr g c k := by unfold sp_nr; rw [e]
          have q := nx c19
          rw [e2, en] at q
          exact q
        · refine jt_go jm_m156 35 2 (f' := (61, [(3, .inl (nI k)), (0, .inr (.inr (5, a, 0))), (1, .inl (nI c)), (2, .inl (nI (g (38 + 5 * c)))), (4, .inl (nI k))], [], h)) (P := True) rfl trivial ?_
          refine jt_inc jm_m156 37 (c := k) (L' := [(4, .inl (nI (k + 1))), (3, .inl (nI k)), (0, .inr (.inr (5, a, 0))), (1, .inl (nI c)), (2, .inl (nI (g (38 + 5 * c))))]) rfl rfl rfl rfl ?_
          refine jt_go jm_m156 38 1 (f' := (14, [(4, .inl (nI (k + 1))), (3, .inl (nI k)), (0, .inr (.inr (5, a, 0))), (1, .inl (nI c)), (2, .inl (nI (g (38 + 5 * c))))], [], h)) (P := True) rfl trivial ?_
          refine jt_pick (L' := [(0, .inr (.inr (5, a, 0))), (1, .inl (nI c)), (2, .inl (nI (g (38 + 5 * c)))), (3, .inl (nI k)), (4, .inl (nI (k + 1)))]) [2, 3, 4, 1, 0] rfl ?_
          have e : sp_near g c (k + 1) = (k, sp_ap (g (38 + 5 * k)) (g (38 + 5 * c))) := if_pos (by have := sp_ap_lt (jw_at W (c := k) (by omega)) (jw_at W (c := c) (by omega)); omega)
          have e2 : sp_nr g c (k + 1) = some k := by unfold sp_nr; rw [e]; exact if_neg (by dsimp only; have := sp_ap_lt (jw_at W (c := k) (by omega)) (jw_at W (c := c) (by omega)); omega)
          have q := nx c19
          rw [e2] at q
          exact q)
set_option maxHeartbeats 4000000 in
set_option maxRecDepth 20000 in
theorem tb_near {h : jm_M} {a : Nat} {g : Nat → Nat} (R : jg_rel h a g) (W : jw g) {c : Nat} (hc : c < g 0) : jt_Pu 156 [.inr (.inr (5, a, 0)), .inl (nI c)] h (.inl (nI (g (38 + 5 * (sp_near g c (g 0)).1)))) := by
  have bn := jw_n W
  have bm := jw_m W
  have bt := jw_t W
  show jt_T 156 (0, [(0, .inr (.inr (5, a, 0))), (1, .inl (nI c))], [], h) _
  refine jt_go jm_m156 0 3 (f' := (3, [(0, .inr (.inr (5, a, 0))), (1, .inl (nI c))], [.inl (nI 2), .inl (nI c), .inr (.inr (5, a, 0))], h)) (P := True) rfl trivial ?_
  refine jt_callp (w := .inl (nI (38 + 5 * c))) jm_m156 3 (mi' := 147) (as := [.inl (nI c), .inl (nI 2)]) (rest := [.inr (.inr (5, a, 0))]) (nxt := 6) rfl rfl jm_m147 rfl rfl (tb_ofC (k := 38 + 5 * c) (by omega)) ?_
  refine jt_go jm_m156 4 1 (f' := (7, [(0, .inr (.inr (5, a, 0))), (1, .inl (nI c))], [.inl (h (5, a, 0) (nI (38 + 5 * c)).toNatClampNeg)], h)) (P := vp_in (nI (38 + 5 * c)) 78 ∧ True) rfl ⟨(vp_in_nI (by omega) (by decide)), trivial⟩ ?_
  refine jt_ti (show (h (5, a, 0) (nI (38 + 5 * c)).toNatClampNeg) = nI (g (38 + 5 * c)) from jg_get R (k := 38 + 5 * c) (nI_clamp (by omega)) (by omega)) ?_
  have bq1 := jw_at W (c := c) (by omega)
  refine jt_go jm_m156 5 5 (f' := (14, [(4, .inl (nI 0)), (3, .inl ((-4))), (2, .inl (nI (g (38 + 5 * c)))), (0, .inr (.inr (5, a, 0))), (1, .inl (nI c))], [], h)) (P := True) rfl trivial ?_
  refine jt_pick (L' := [(0, .inr (.inr (5, a, 0))), (1, .inl (nI c)), (2, .inl (nI (g (38 + 5 * c)))), (3, .inl ((-4))), (4, .inl (nI 0))]) [3, 4, 2, 1, 0] rfl ?_
  exact tb_near_l R W hc 0 (Nat.zero_le _)
