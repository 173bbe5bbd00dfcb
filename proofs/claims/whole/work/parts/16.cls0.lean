/-! CLASS: small questions. -/
theorem jt_lb1 {P : Prop} [Decidable P] (h : P) : (some (.inl (nI 1)) : Option jm_V) = some (.inl (jm_b P)) := by rw [jm_b_pos h]; rfl
theorem jt_lb0 {P : Prop} [Decidable P] (h : ¬ P) : (some (.inl (nI 0)) : Option jm_V) = some (.inl (jm_b P)) := by rw [jm_b_neg h]; rfl
theorem jt_li {x y : Int32} (h : x = y) : (some (.inl x) : Option jm_V) = some (.inl y) := by rw [h]
theorem jt_ln {x y : Nat} (h : x = y) : (some (.inl (nI x)) : Option jm_V) = some (.inl (nI y)) := by rw [h]
theorem jx_up {P : Nat → Prop} {n : Nat} (step : ∀ k, k ≤ n → (k < n → P (k + 1)) → P k) : ∀ k, k ≤ n → P k := by
  have key : ∀ d k, k ≤ n → n - k = d → P k := by
    intro d
    induction d with
    | zero => intro k hk hd; exact step k hk (fun q => absurd q (by omega))
    | succ d ih => intro k hk hd; exact step k hk (fun q => ih (k + 1) q (by omega))
  exact fun k hk => key _ k hk rfl
set_option maxRecDepth 100000 in
theorem jx_abs16 : ∀ a, a < 17 → ∀ b, b < 17 → (if 0 ≤ nI a - nI b then nI a - nI b else 0 - (nI a - nI b)) = nI (sp_ap a b) := by decide +kernel
set_option maxRecDepth 100000 in
theorem jx_to16 : ∀ p, p < 9 → ∀ a, a < 16 → ∀ b, b < 16 → nI a + (if -(nI p) < (if nI b - nI a < nI p then nI b - nI a else nI p) then (if nI b - nI a < nI p then nI b - nI a else nI p) else -(nI p)) = nI (sp_to a b p) := by decide +kernel
set_option maxRecDepth 100000 in
theorem jx_bit : ∀ P, P < 64 → ∀ p, p < 6 → (nI P >>> (nI p &&& 31)) &&& nI 1 = nI (P / 2 ^ p % 2) := by decide +kernel
set_option maxRecDepth 100000 in
theorem jx_orb : ∀ P, P < 64 → ∀ p, p < 6 → P / 2 ^ p % 2 = 0 → nI P ||| (nI 1 <<< (nI p &&& 31)) = nI (P + 2 ^ p) := by decide +kernel
theorem jx_pbit {g : Nat → Nat} (W : jw g) {p : Nat} (hp : p < 6) : sp_pb g / 2 ^ p % 2 = g (67 + 2 * p) := by
  have h0 : g 67 ≤ 1 := jw_pas W (c := 0) (by decide); have h1 : g 69 ≤ 1 := jw_pas W (c := 1) (by decide); have h2 : g 71 ≤ 1 := jw_pas W (c := 2) (by decide); have h3 : g 73 ≤ 1 := jw_pas W (c := 3) (by decide); have h4 : g 75 ≤ 1 := jw_pas W (c := 4) (by decide); have h5 : g 77 ≤ 1 := jw_pas W (c := 5) (by decide)
  unfold sp_pb
  rcases (show p = 0 ∨ p = 1 ∨ p = 2 ∨ p = 3 ∨ p = 4 ∨ p = 5 by omega) with rfl | rfl | rfl | rfl | rfl | rfl <;> simp only [Nat.reduceMul, Nat.reduceAdd, Nat.reducePow] <;> omega
theorem jx_pbup {g : Nat → Nat} {p : Nat} (hp : p < 6) (h : g (67 + 2 * p) = 0) : sp_pb (sp_up g (67 + 2 * p) 1) = sp_pb g + 2 ^ p := by
  unfold sp_pb
  rcases (show p = 0 ∨ p = 1 ∨ p = 2 ∨ p = 3 ∨ p = 4 ∨ p = 5 by omega) with rfl | rfl | rfl | rfl | rfl | rfl <;> simp only [Nat.reduceMul, Nat.reduceAdd, Nat.reducePow] at h ⊢ <;> simp only [sp_up, h] <;> simp <;> omega
theorem jx_cat {x : Int32} {n : Nat} (hn : n < 2 ^ 31) (h : nI 0 ≤ x ∧ x < nI n) : ∃ c : Nat, c < n ∧ x = nI c := by
  obtain ⟨j, hj, rfl⟩ := nI_of (x := x) (Int32.not_lt.mpr h.1)
  exact ⟨j, (nI_ltI hj hn).mp h.2, rfl⟩
theorem jx_win {x : Int32} {n : Nat} (hn : n < 2 ^ 31) (h : nI 0 ≤ x ∧ x ≤ nI n) : ∃ c : Nat, c ≤ n ∧ x = nI c := by
  obtain ⟨j, hj, rfl⟩ := nI_of (x := x) (Int32.not_lt.mpr h.1)
  exact ⟨j, (nI_leI hj hn).mp h.2, rfl⟩
theorem sp_sd_le (p : Nat) : sp_sd p ≤ 1 := by unfold sp_sd; split <;> omega
set_option maxRecDepth 100000 in
theorem jx_d4 : ∀ f, f < 10 → nI f / nI 4 = nI (f / 4) := by decide +kernel
set_option maxRecDepth 100000 in
theorem jx_r3 : ∀ t, t < 24 → nI t - nI t / nI 3 * nI 3 = nI (t % 3) := by decide +kernel
set_option maxRecDepth 100000 in
theorem jx_r2 : ∀ t, t < 24 → nI t - nI t / nI 2 * nI 2 = nI (t % 2) := by decide +kernel
set_option maxHeartbeats 4000000 in
set_option maxRecDepth 20000 in
theorem ta_within {h : jm_M} {x a b : Int32} : jt_Pu 136 [.inl (x), .inl (a), .inl (b)] h (.inl (jm_b (a ≤ x ∧ x ≤ b))) := by
  show jt_T 136 (0, [(0, .inl (x)), (1, .inl (a)), (2, .inl (b))], [], h) _
  refine jt_go jm_m136 0 2 (f' := (2, [(0, .inl (x)), (1, .inl (a)), (2, .inl (b))], [.inl (a), .inl (x)], h)) (P := True) rfl trivial ?_
  refine jt_iclt jm_m136 2 (tgt := 14) (nxt := 5) rfl rfl rfl (fun c2 => ?_) (fun c2 => ?_)
  · refine jt_go jm_m136 8 1 (f' := (15, [(0, .inl (x)), (1, .inl (a)), (2, .inl (b))], [.inl (nI 0)], h)) (P := True) rfl trivial ?_
    refine jt_zret jm_m136 9 rfl (Or.inl rfl) ?_
    exact ⟨jt_lb0 (fun z => absurd (Int32.not_lt.mpr z.1) (fun q => q c2)), rfl⟩
  · refine jt_go jm_m136 3 2 (f' := (7, [(0, .inl (x)), (1, .inl (a)), (2, .inl (b))], [.inl (b), .inl (x)], h)) (P := True) rfl trivial ?_
    refine jt_icgt jm_m136 5 (tgt := 14) (nxt := 10) rfl rfl rfl (fun c7 => ?_) (fun c7 => ?_)
    · refine jt_go jm_m136 8 1 (f' := (15, [(0, .inl (x)), (1, .inl (a)), (2, .inl (b))], [.inl (nI 0)], h)) (P := True) rfl trivial ?_
      refine jt_zret jm_m136 9 rfl (Or.inl rfl) ?_
      exact ⟨jt_lb0 (fun z => absurd (Int32.not_lt.mpr z.2) (fun q => q c7)), rfl⟩
    · refine jt_go jm_m136 6 2 (f' := (15, [(0, .inl (x)), (1, .inl (a)), (2, .inl (b))], [.inl (nI 1)], h)) (P := True) rfl trivial ?_
      refine jt_zret jm_m136 9 rfl (Or.inr rfl) ?_
      exact ⟨jt_lb1 (⟨Int32.not_lt.mp c2, Int32.not_lt.mp c7⟩), rfl⟩
set_option maxHeartbeats 4000000 in
set_option maxRecDepth 20000 in
theorem ta_shelf {h : jm_M} {x : Int32} : jt_Pu 137 [.inl (x)] h (.inl (jm_b (nI 0 ≤ x ∧ x ≤ nI 7))) := by
  show jt_T 137 (0, [(0, .inl (x))], [], h) _
  refine jt_go jm_m137 0 3 (f' := (4, [(0, .inl (x))], [.inl (nI 7), .inl (nI 0), .inl (x)], h)) (P := True) rfl trivial ?_
  refine jt_callp (w := .inl (jm_b (nI 0 ≤ x ∧ x ≤ nI 7))) jm_m137 3 (mi' := 136) (as := [.inl (x), .inl (nI 0), .inl (nI 7)]) (rest := []) (nxt := 7) rfl rfl jm_m136 rfl rfl (ta_within) ?_
  refine jt_zret jm_m137 4 rfl (jm_b_01 _) ?_
  exact ⟨rfl, rfl⟩
set_option maxHeartbeats 4000000 in
set_option maxRecDepth 20000 in
theorem ta_place {h : jm_M} {x : Int32} : jt_Pu 138 [.inl (x)] h (.inl (jm_b (nI 0 ≤ x ∧ x ≤ nI 15))) := by
  show jt_T 138 (0, [(0, .inl (x))], [], h) _
  refine jt_go jm_m138 0 3 (f' := (4, [(0, .inl (x))], [.inl (nI 15), .inl (nI 0), .inl (x)], h)) (P := True) rfl trivial ?_
  refine jt_callp (w := .inl (jm_b (nI 0 ≤ x ∧ x ≤ nI 15))) jm_m138 3 (mi' := 136) (as := [.inl (x), .inl (nI 0), .inl (nI 15)]) (rest := []) (nxt := 7) rfl rfl jm_m136 rfl rfl (ta_within) ?_
  refine jt_zret jm_m138 4 rfl (jm_b_01 _) ?_
  exact ⟨rfl, rfl⟩
set_option maxHeartbeats 4000000 in
set_option maxRecDepth 20000 in
theorem ta_sidei {h : jm_M} {x : Int32} : jt_Pu 139 [.inl (x)] h (.inl (jm_b (nI 0 ≤ x ∧ x ≤ nI 1))) := by
  show jt_T 139 (0, [(0, .inl (x))], [], h) _
  refine jt_go jm_m139 0 3 (f' := (3, [(0, .inl (x))], [.inl (nI 1), .inl (nI 0), .inl (x)], h)) (P := True) rfl trivial ?_
  refine jt_callp (w := .inl (jm_b (nI 0 ≤ x ∧ x ≤ nI 1))) jm_m139 3 (mi' := 136) (as := [.inl (x), .inl (nI 0), .inl (nI 1)]) (rest := []) (nxt := 6) rfl rfl jm_m136 rfl rfl (ta_within) ?_
  refine jt_zret jm_m139 4 rfl (jm_b_01 _) ?_
  exact ⟨rfl, rfl⟩
set_option maxHeartbeats 4000000 in
set_option maxRecDepth 20000 in
theorem ta_kind {h : jm_M} {x : Int32} : jt_Pu 140 [.inl (x)] h (.inl (jm_b (nI 0 ≤ x ∧ x ≤ nI 7))) := by
  show jt_T 140 (0, [(0, .inl (x))], [], h) _
  refine jt_go jm_m140 0 3 (f' := (4, [(0, .inl (x))], [.inl (nI 7), .inl (nI 0), .inl (x)], h)) (P := True) rfl trivial ?_
  refine jt_callp (w := .inl (jm_b (nI 0 ≤ x ∧ x ≤ nI 7))) jm_m140 3 (mi' := 136) (as := [.inl (x), .inl (nI 0), .inl (nI 7)]) (rest := []) (nxt := 7) rfl rfl jm_m136 rfl rfl (ta_within) ?_
  refine jt_zret jm_m140 4 rfl (jm_b_01 _) ?_
  exact ⟨rfl, rfl⟩
set_option maxHeartbeats 4000000 in
set_option maxRecDepth 20000 in
theorem ta_ahead {h : jm_M} {x : Int32} : jt_Pu 141 [.inl (x)] h (.inl (jm_b (nI 0 ≤ x ∧ x ≤ nI 99))) := by
  show jt_T 141 (0, [(0, .inl (x))], [], h) _
  refine jt_go jm_m141 0 3 (f' := (4, [(0, .inl (x))], [.inl (nI 99), .inl (nI 0), .inl (x)], h)) (P := True) rfl trivial ?_
  refine jt_callp (w := .inl (jm_b (nI 0 ≤ x ∧ x ≤ nI 99))) jm_m141 3 (mi' := 136) (as := [.inl (x), .inl (nI 0), .inl (nI 99)]) (rest := []) (nxt := 7) rfl rfl jm_m136 rfl rfl (ta_within) ?_
  refine jt_zret jm_m141 4 rfl (jm_b_01 _) ?_
  exact ⟨rfl, rfl⟩
set_option maxHeartbeats 4000000 in
set_option maxRecDepth 20000 in
theorem ta_sideOf {h : jm_M} {p : Nat} (hp : p < 16) : jt_Pu 142 [.inl (nI p)] h (.inl (nI (sp_sd p))) := by
  show jt_T 142 (0, [(0, .inl (nI p))], [], h) _
  refine jt_go jm_m142 0 2 (f' := (3, [(0, .inl (nI p))], [.inl (nI 7), .inl (nI p)], h)) (P := True) rfl trivial ?_
  refine jt_nicgt jm_m142 2 (a := p) (b := 7) (by omega) (by omega) (tgt := 10) (nxt := 6) rfl rfl rfl (fun c3 => ?_) (fun c3 => ?_)
  · refine jt_go jm_m142 5 1 (f' := (11, [(0, .inl (nI p))], [.inl (nI 1)], h)) (P := True) rfl trivial ?_
    refine jt_iret jm_m142 6 rfl ?_
    exact ⟨jt_ln (by unfold sp_sd; rw [if_neg (by omega)]), rfl⟩
  · refine jt_go jm_m142 3 2 (f' := (11, [(0, .inl (nI p))], [.inl (nI 0)], h)) (P := True) rfl trivial ?_
    refine jt_iret jm_m142 6 rfl ?_
    exact ⟨jt_ln (by unfold sp_sd; rw [if_pos (by omega)]), rfl⟩
set_option maxHeartbeats 4000000 in
set_option maxRecDepth 20000 in
theorem ta_hasCat {h : jm_M} {j : Nat} {g : Nat → Nat} (R : jf_rel h j g) (W : jw g) {x : Int32} : jt_Pu 7 [.inr (.inr (2, j, 0)), .inl (x)] h (.inl (jm_b (nI 0 ≤ x ∧ x < nI (g 0)))) := by
  show jt_T 7 (0, [(0, .inr (.inr (2, j, 0))), (1, .inl (x))], [], h) _
  refine jt_go jm_m7 0 1 (f' := (1, [(0, .inr (.inr (2, j, 0))), (1, .inl (x))], [.inl (x)], h)) (P := True) rfl trivial ?_
  refine jt_iflt jm_m7 1 (tgt := 16) (nxt := 4) rfl rfl rfl (fun c1 => ?_) (fun c1 => ?_)
  · refine jt_go jm_m7 8 1 (f' := (17, [(0, .inr (.inr (2, j, 0))), (1, .inl (x))], [.inl (nI 0)], h)) (P := True) rfl trivial ?_
    refine jt_zret jm_m7 9 rfl (Or.inl rfl) ?_
    exact ⟨jt_lb0 (fun z => absurd (Int32.not_lt.mpr z.1) (fun q => q c1)), rfl⟩
  · refine jt_go jm_m7 2 3 (f' := (9, [(0, .inr (.inr (2, j, 0))), (1, .inl (x))], [.inl (h (2, j, 0) 9), .inl (x)], h)) (P := True) rfl trivial ?_
    refine jt_ti (show h (2, j, 0) 9 = nI (g 0) from jf_cats R) ?_
    have bq1 := jw_n W
    refine jt_icge jm_m7 5 (tgt := 16) (nxt := 12) rfl rfl rfl (fun c9 => ?_) (fun c9 => ?_)
    · refine jt_go jm_m7 8 1 (f' := (17, [(0, .inr (.inr (2, j, 0))), (1, .inl (x))], [.inl (nI 0)], h)) (P := True) rfl trivial ?_
      refine jt_zret jm_m7 9 rfl (Or.inl rfl) ?_
      exact ⟨jt_lb0 (fun z => c9 z.2), rfl⟩
    · refine jt_go jm_m7 6 2 (f' := (17, [(0, .inr (.inr (2, j, 0))), (1, .inl (x))], [.inl (nI 1)], h)) (P := True) rfl trivial ?_
      refine jt_zret jm_m7 9 rfl (Or.inr rfl) ?_
      exact ⟨jt_lb1 (⟨Int32.not_lt.mp c1, c9⟩), rfl⟩
set_option maxHeartbeats 4000000 in
set_option maxRecDepth 20000 in
theorem ta_hasMan {h : jm_M} {j : Nat} {g : Nat → Nat} (R : jf_rel h j g) (W : jw g) {x : Int32} : jt_Pu 8 [.inr (.inr (2, j, 0)), .inl (x)] h (.inl (jm_b (nI 0 ≤ x ∧ x < nI (g 1)))) := by
  show jt_T 8 (0, [(0, .inr (.inr (2, j, 0))), (1, .inl (x))], [], h) _
  refine jt_go jm_m8 0 1 (f' := (1, [(0, .inr (.inr (2, j, 0))), (1, .inl (x))], [.inl (x)], h)) (P := True) rfl trivial ?_
  refine jt_iflt jm_m8 1 (tgt := 16) (nxt := 4) rfl rfl rfl (fun c1 => ?_) (fun c1 => ?_)
  · refine jt_go jm_m8 8 1 (f' := (17, [(0, .inr (.inr (2, j, 0))), (1, .inl (x))], [.inl (nI 0)], h)) (P := True) rfl trivial ?_
    refine jt_zret jm_m8 9 rfl (Or.inl rfl) ?_
    exact ⟨jt_lb0 (fun z => absurd (Int32.not_lt.mpr z.1) (fun q => q c1)), rfl⟩
  · refine jt_go jm_m8 2 3 (f' := (9, [(0, .inr (.inr (2, j, 0))), (1, .inl (x))], [.inl (h (2, j, 0) 10), .inl (x)], h)) (P := True) rfl trivial ?_
    refine jt_ti (show h (2, j, 0) 10 = nI (g 1) from jf_men R) ?_
    have bq1 := jw_m W
    refine jt_icge jm_m8 5 (tgt := 16) (nxt := 12) rfl rfl rfl (fun c9 => ?_) (fun c9 => ?_)
    · refine jt_go jm_m8 8 1 (f' := (17, [(0, .inr (.inr (2, j, 0))), (1, .inl (x))], [.inl (nI 0)], h)) (P := True) rfl trivial ?_
      refine jt_zret jm_m8 9 rfl (Or.inl rfl) ?_
      exact ⟨jt_lb0 (fun z => c9 z.2), rfl⟩
    · refine jt_go jm_m8 6 2 (f' := (17, [(0, .inr (.inr (2, j, 0))), (1, .inl (x))], [.inl (nI 1)], h)) (P := True) rfl trivial ?_
      refine jt_zret jm_m8 9 rfl (Or.inr rfl) ?_
      exact ⟨jt_lb1 (⟨Int32.not_lt.mp c1, c9⟩), rfl⟩
set_option maxHeartbeats 4000000 in
set_option maxRecDepth 20000 in
theorem ta_hasName {h : jm_M} {j : Nat} {g : Nat → Nat} (R : jf_rel h j g) (W : jw g) {x : Int32} : jt_Pu 9 [.inr (.inr (2, j, 0)), .inl (x)] h (.inl (jm_b (x = nI 9 ∨ (nI 0 ≤ x ∧ x < nI (g 1))))) := by
  show jt_T 9 (0, [(0, .inr (.inr (2, j, 0))), (1, .inl (x))], [], h) _
  refine jt_go jm_m9 0 2 (f' := (3, [(0, .inr (.inr (2, j, 0))), (1, .inl (x))], [.inl (nI 9), .inl (x)], h)) (P := True) rfl trivial ?_
  refine jt_iceq jm_m9 2 (tgt := 14) (nxt := 6) rfl rfl rfl (fun c3 => ?_) (fun c3 => ?_)
  · refine jt_go jm_m9 7 2 (f' := (19, [(0, .inr (.inr (2, j, 0))), (1, .inl (x))], [.inl (nI 1)], h)) (P := True) rfl trivial ?_
    refine jt_zret jm_m9 10 rfl (Or.inr rfl) ?_
    exact ⟨jt_lb1 (Or.inl c3), rfl⟩
  · refine jt_go jm_m9 3 2 (f' := (8, [(0, .inr (.inr (2, j, 0))), (1, .inl (x))], [.inl (x), .inr (.inr (2, j, 0))], h)) (P := True) rfl trivial ?_
    refine jt_callp (w := .inl (jm_b (nI 0 ≤ x ∧ x < nI (g 1)))) jm_m9 5 (mi' := 8) (as := [.inr (.inr (2, j, 0)), .inl (x)]) (rest := []) (nxt := 11) rfl rfl jm_m8 rfl rfl (ta_hasMan R W) ?_
    refine jt_ifbeq jm_m9 6 (tgt := 18) (nxt := 14) rfl rfl rfl (fun c11 => ?_) (fun c11 => ?_)
    · refine jt_go jm_m9 9 1 (f' := (19, [(0, .inr (.inr (2, j, 0))), (1, .inl (x))], [.inl (nI 0)], h)) (P := True) rfl trivial ?_
      refine jt_zret jm_m9 10 rfl (Or.inl rfl) ?_
      exact ⟨jt_lb0 (fun z => z.elim c3 c11), rfl⟩
    · refine jt_go jm_m9 7 2 (f' := (19, [(0, .inr (.inr (2, j, 0))), (1, .inl (x))], [.inl (nI 1)], h)) (P := True) rfl trivial ?_
      refine jt_zret jm_m9 10 rfl (Or.inr rfl) ?_
      exact ⟨jt_lb1 (Or.inr c11), rfl⟩
set_option maxHeartbeats 4000000 in
set_option maxRecDepth 20000 in
theorem ta_hasPassed {h : jm_M} {j : Nat} {g : Nat → Nat} (R : jf_rel h j g) (W : jw g) {p : Nat} (hp : p < 6) : jt_Pu 10 [.inr (.inr (2, j, 0)), .inl (nI p)] h (.inl (jm_b (g (67 + 2 * p) = 1))) := by
  have bp := jw_pas W hp
  have bb := jw_pb W
  show jt_T 10 (0, [(0, .inr (.inr (2, j, 0))), (1, .inl (nI p))], [], h) _
  refine jt_go jm_m10 0 2 (f' := (4, [(0, .inr (.inr (2, j, 0))), (1, .inl (nI p))], [.inl (h (2, j, 0) 13)], h)) (P := True) rfl trivial ?_
  refine jt_ti (show h (2, j, 0) 13 = nI (sp_pb g) from jf_pass R) ?_
  have bq1 := jw_pb W
  refine jt_go jm_m10 2 4 (f' := (8, [(0, .inr (.inr (2, j, 0))), (1, .inl (nI p))], [.inl (((nI (sp_pb g)) >>> ((nI p) &&& 31)) &&& (nI 1))], h)) (P := True) rfl trivial ?_
  refine jt_ti (show ((nI (sp_pb g)) >>> ((nI p) &&& 31)) &&& (nI 1) = nI (g (67 + 2 * p)) from by rw [jx_bit _ bb _ hp, jx_pbit W hp]) ?_
  refine jt_go jm_m10 6 1 (f' := (9, [(0, .inr (.inr (2, j, 0))), (1, .inl (nI p))], [.inl (nI 1), .inl (nI (g (67 + 2 * p)))], h)) (P := True) rfl trivial ?_
  refine jt_nicne jm_m10 7 (a := g (67 + 2 * p)) (b := 1) (by omega) (by omega) (tgt := 16) (nxt := 12) rfl rfl rfl (fun c9 => ?_) (fun c9 => ?_)
  · refine jt_go jm_m10 10 1 (f' := (17, [(0, .inr (.inr (2, j, 0))), (1, .inl (nI p))], [.inl (nI 0)], h)) (P := True) rfl trivial ?_
    refine jt_zret jm_m10 11 rfl (Or.inl rfl) ?_
    exact ⟨jt_lb0 (c9), rfl⟩
  · refine jt_go jm_m10 8 2 (f' := (17, [(0, .inr (.inr (2, j, 0))), (1, .inl (nI p))], [.inl (nI 1)], h)) (P := True) rfl trivial ?_
    refine jt_zret jm_m10 11 rfl (Or.inr rfl) ?_
    exact ⟨jt_lb1 (c9), rfl⟩
set_option maxHeartbeats 4000000 in
set_option maxRecDepth 20000 in
theorem ta_hasCrossed {h : jm_M} {j S p : Nat} (hS : S < 64) (e : h (2, j, 0) 14 = nI S) (hp : p < 6) : jt_Pu 11 [.inr (.inr (2, j, 0)), .inl (nI p)] h (.inl (jm_b (S / 2 ^ p % 2 = 1))) := by
  show jt_T 11 (0, [(0, .inr (.inr (2, j, 0))), (1, .inl (nI p))], [], h) _
  refine jt_go jm_m11 0 2 (f' := (4, [(0, .inr (.inr (2, j, 0))), (1, .inl (nI p))], [.inl (h (2, j, 0) 14)], h)) (P := True) rfl trivial ?_
  refine jt_ti (show h (2, j, 0) 14 = nI S from e) ?_
  refine jt_go jm_m11 2 4 (f' := (8, [(0, .inr (.inr (2, j, 0))), (1, .inl (nI p))], [.inl (((nI S) >>> ((nI p) &&& 31)) &&& (nI 1))], h)) (P := True) rfl trivial ?_
  refine jt_ti (show ((nI S) >>> ((nI p) &&& 31)) &&& (nI 1) = nI (S / 2 ^ p % 2) from jx_bit _ hS _ hp) ?_
  refine jt_go jm_m11 6 1 (f' := (9, [(0, .inr (.inr (2, j, 0))), (1, .inl (nI p))], [.inl (nI 1), .inl (nI (S / 2 ^ p % 2))], h)) (P := True) rfl trivial ?_
  refine jt_nicne jm_m11 7 (a := S / 2 ^ p % 2) (b := 1) (by omega) (by omega) (tgt := 16) (nxt := 12) rfl rfl rfl (fun c9 => ?_) (fun c9 => ?_)
  · refine jt_go jm_m11 10 1 (f' := (17, [(0, .inr (.inr (2, j, 0))), (1, .inl (nI p))], [.inl (nI 0)], h)) (P := True) rfl trivial ?_
    refine jt_zret jm_m11 11 rfl (Or.inl rfl) ?_
    exact ⟨jt_lb0 (c9), rfl⟩
  · refine jt_go jm_m11 8 2 (f' := (17, [(0, .inr (.inr (2, j, 0))), (1, .inl (nI p))], [.inl (nI 1)], h)) (P := True) rfl trivial ?_
    refine jt_zret jm_m11 11 rfl (Or.inr rfl) ?_
    exact ⟨jt_lb1 (c9), rfl⟩
set_option maxHeartbeats 4000000 in
set_option maxRecDepth 20000 in
theorem ta_hasDays {h : jm_M} {j : Nat} {g : Nat → Nat} (R : jf_rel h j g) (W : jw g) {x : Int32} : jt_Pu 12 [.inr (.inr (2, j, 0)), .inl (x)] h (.inl (jm_b (¬ nI 999 < nI (g 3) + (nI (g 2) + x) / nI 24))) := by
  show jt_T 12 (0, [(0, .inr (.inr (2, j, 0))), (1, .inl (x))], [], h) _
  refine jt_go jm_m12 0 2 (f' := (4, [(0, .inr (.inr (2, j, 0))), (1, .inl (x))], [.inl (h (2, j, 0) 12)], h)) (P := True) rfl trivial ?_
  refine jt_ti (show h (2, j, 0) 12 = nI (g 3) from jf_day R) ?_
  refine jt_go jm_m12 2 2 (f' := (8, [(0, .inr (.inr (2, j, 0))), (1, .inl (x))], [.inl (h (2, j, 0) 11), .inl (nI (g 3))], h)) (P := True) rfl trivial ?_
  refine jt_ti (show h (2, j, 0) 11 = nI (g 2) from jf_hour R) ?_
  have bq1 := jw_t W
  refine jt_go jm_m12 4 6 (f' := (17, [(0, .inr (.inr (2, j, 0))), (1, .inl (x))], [.inl (nI 999), .inl ((nI (g 3)) + (((nI (g 2)) + x) / (nI 24)))], h)) (P := ¬ (nI 24) = 0 ∧ True) rfl ⟨(by decide), trivial⟩ ?_
  refine jt_icgt jm_m12 10 (tgt := 24) (nxt := 20) rfl rfl rfl (fun c17 => ?_) (fun c17 => ?_)
  · refine jt_go jm_m12 13 1 (f' := (25, [(0, .inr (.inr (2, j, 0))), (1, .inl (x))], [.inl (nI 0)], h)) (P := True) rfl trivial ?_
    refine jt_zret jm_m12 14 rfl (Or.inl rfl) ?_
    exact ⟨jt_lb0 (not_not_intro c17), rfl⟩
  · refine jt_go jm_m12 11 2 (f' := (25, [(0, .inr (.inr (2, j, 0))), (1, .inl (x))], [.inl (nI 1)], h)) (P := True) rfl trivial ?_
    refine jt_zret jm_m12 14 rfl (Or.inr rfl) ?_
    exact ⟨jt_lb1 (c17), rfl⟩
set_option maxHeartbeats 4000000 in
set_option maxRecDepth 20000 in
theorem ta_pace0 {h : jm_M} {k f t : Nat} (hf : f < 10) (ht : t < 24) : jt_Pu 1 [.inr (.inr (1, k, 0)), .inl (nI f), .inl (nI t)] h (.inl (nI (1 + f / 4))) := by
  show jt_T 1 (0, [(0, .inr (.inr (1, k, 0))), (1, .inl (nI f)), (2, .inl (nI t))], [], h) _
  refine jt_go jm_m1 0 4 (f' := (4, [(0, .inr (.inr (1, k, 0))), (1, .inl (nI f)), (2, .inl (nI t))], [.inl ((nI f) / (nI 4)), .inl (nI 1)], h)) (P := ¬ (nI 4) = 0 ∧ True) rfl ⟨(by decide), trivial⟩ ?_
  refine jt_ti (show (nI f) / (nI 4) = nI (f / 4) from jx_d4 f hf) ?_
  refine jt_go jm_m1 4 1 (f' := (5, [(0, .inr (.inr (1, k, 0))), (1, .inl (nI f)), (2, .inl (nI t))], [.inl ((nI 1) + (nI (f / 4)))], h)) (P := True) rfl trivial ?_
  refine jt_ti (show (nI 1) + (nI (f / 4)) = nI (1 + f / 4) from nI_add _ _) ?_
  refine jt_iret jm_m1 5 rfl ?_
  exact ⟨rfl, rfl⟩
set_option maxHeartbeats 4000000 in
set_option maxRecDepth 20000 in
theorem ta_grow0 {h : jm_M} {k f t : Nat} (hf : f < 10) (ht : t < 24) : jt_Pu 2 [.inr (.inr (1, k, 0))] h (.inl (nI 1)) := by
  show jt_T 2 (0, [(0, .inr (.inr (1, k, 0)))], [], h) _
  refine jt_go jm_m2 0 1 (f' := (1, [(0, .inr (.inr (1, k, 0)))], [.inl (nI 1)], h)) (P := True) rfl trivial ?_
  refine jt_iret jm_m2 1 rfl ?_
  exact ⟨rfl, rfl⟩
set_option maxHeartbeats 4000000 in
set_option maxRecDepth 20000 in
theorem ta_grow3 {h : jm_M} {k f t : Nat} (hf : f < 10) (ht : t < 24) : jt_Pu 71 [.inr (.inr (1, k, 0))] h (.inl (nI 2)) := by
  show jt_T 71 (0, [(0, .inr (.inr (1, k, 0)))], [], h) _
  refine jt_go jm_m71 0 1 (f' := (1, [(0, .inr (.inr (1, k, 0)))], [.inl (nI 2)], h)) (P := True) rfl trivial ?_
  refine jt_iret jm_m71 1 rfl ?_
  exact ⟨rfl, rfl⟩
set_option maxHeartbeats 4000000 in
set_option maxRecDepth 20000 in
theorem ta_grow5 {h : jm_M} {k f t : Nat} (hf : f < 10) (ht : t < 24) : jt_Pu 50 [.inr (.inr (1, k, 0))] h (.inl (nI 0)) := by
  show jt_T 50 (0, [(0, .inr (.inr (1, k, 0)))], [], h) _
  refine jt_go jm_m50 0 1 (f' := (1, [(0, .inr (.inr (1, k, 0)))], [.inl (nI 0)], h)) (P := True) rfl trivial ?_
  refine jt_iret jm_m50 1 rfl ?_
  exact ⟨rfl, rfl⟩
set_option maxHeartbeats 4000000 in
set_option maxRecDepth 20000 in
theorem ta_pace4 {h : jm_M} {k f t : Nat} (hf : f < 10) (ht : t < 24) : jt_Pu 35 [.inr (.inr (1, k, 0)), .inl (nI f), .inl (nI t)] h (.inl (nI 3)) := by
  show jt_T 35 (0, [(0, .inr (.inr (1, k, 0))), (1, .inl (nI f)), (2, .inl (nI t))], [], h) _
  refine jt_go jm_m35 0 1 (f' := (1, [(0, .inr (.inr (1, k, 0))), (1, .inl (nI f)), (2, .inl (nI t))], [.inl (nI 3)], h)) (P := True) rfl trivial ?_
  refine jt_iret jm_m35 1 rfl ?_
  exact ⟨rfl, rfl⟩
set_option maxHeartbeats 4000000 in
set_option maxRecDepth 20000 in
theorem ta_pace7 {h : jm_M} {k f t : Nat} (hf : f < 10) (ht : t < 24) : jt_Pu 39 [.inr (.inr (1, k, 0)), .inl (nI f), .inl (nI t)] h (.inl (nI (if t % 3 = 0 then 1 else 0))) := by
  show jt_T 39 (0, [(0, .inr (.inr (1, k, 0))), (1, .inl (nI f)), (2, .inl (nI t))], [], h) _
  refine jt_go jm_m39 0 3 (f' := (3, [(0, .inr (.inr (1, k, 0))), (1, .inl (nI f)), (2, .inl (nI t))], [.inl ((nI t) - (nI t) / (nI 3) * (nI 3))], h)) (P := ¬ (nI 3) = 0 ∧ True) rfl ⟨(by decide), trivial⟩ ?_
  refine jt_ti (show (nI t) - (nI t) / (nI 3) * (nI 3) = nI (t % 3) from jx_r3 t ht) ?_
  refine jt_nifne jm_m39 3 (by omega) (tgt := 10) (nxt := 6) rfl rfl rfl (fun c3 => ?_) (fun c3 => ?_)
  · refine jt_go jm_m39 6 1 (f' := (11, [(0, .inr (.inr (1, k, 0))), (1, .inl (nI f)), (2, .inl (nI t))], [.inl (nI 0)], h)) (P := True) rfl trivial ?_
    refine jt_iret jm_m39 7 rfl ?_
    exact ⟨jt_ln (by rw [if_neg c3]), rfl⟩
  · refine jt_go jm_m39 4 2 (f' := (11, [(0, .inr (.inr (1, k, 0))), (1, .inl (nI f)), (2, .inl (nI t))], [.inl (nI 1)], h)) (P := True) rfl trivial ?_
    refine jt_iret jm_m39 7 rfl ?_
    exact ⟨jt_ln (by rw [if_pos c3]), rfl⟩
set_option maxHeartbeats 4000000 in
set_option maxRecDepth 20000 in
theorem ta_pace2_2 {h : jm_M} {f t : Nat} (hf : f < 10) (ht : t < 24) : jt_Pu 67 [.inr (.inr (1, 2, 0)), .inl (nI f), .inl (nI t)] h (.inl (nI (1 + f / 4 + 1))) := by
  show jt_T 67 (0, [(0, .inr (.inr (1, 2, 0))), (1, .inl (nI f)), (2, .inl (nI t))], [], h) _
  refine jt_go jm_m67 0 3 (f' := (3, [(0, .inr (.inr (1, 2, 0))), (1, .inl (nI f)), (2, .inl (nI t))], [.inl (nI t), .inl (nI f), .inr (.inr (1, 2, 0))], h)) (P := True) rfl trivial ?_
  refine jt_callp (w := .inl (nI (1 + f / 4))) jm_m67 3 (mi' := 1) (as := [.inr (.inr (1, 2, 0)), .inl (nI f), .inl (nI t)]) (rest := []) (nxt := 6) rfl rfl jm_m1 rfl rfl (ta_pace0 hf ht) ?_
  refine jt_go jm_m67 4 2 (f' := (8, [(0, .inr (.inr (1, 2, 0))), (1, .inl (nI f)), (2, .inl (nI t))], [.inl ((nI (1 + f / 4)) + (nI 1))], h)) (P := True) rfl trivial ?_
  refine jt_ti (show (nI (1 + f / 4)) + (nI 1) = nI (1 + f / 4 + 1) from nI_add _ _) ?_
  refine jt_iret jm_m67 6 rfl ?_
  exact ⟨rfl, rfl⟩
set_option maxHeartbeats 4000000 in
set_option maxRecDepth 20000 in
theorem ta_pace2_6 {h : jm_M} {f t : Nat} (hf : f < 10) (ht : t < 24) : jt_Pu 67 [.inr (.inr (1, 6, 0)), .inl (nI f), .inl (nI t)] h (.inl (nI (1 + f / 4 + 1))) := by
  show jt_T 67 (0, [(0, .inr (.inr (1, 6, 0))), (1, .inl (nI f)), (2, .inl (nI t))], [], h) _
  refine jt_go jm_m67 0 3 (f' := (3, [(0, .inr (.inr (1, 6, 0))), (1, .inl (nI f)), (2, .inl (nI t))], [.inl (nI t), .inl (nI f), .inr (.inr (1, 6, 0))], h)) (P := True) rfl trivial ?_
  refine jt_callp (w := .inl (nI (1 + f / 4))) jm_m67 3 (mi' := 1) (as := [.inr (.inr (1, 6, 0)), .inl (nI f), .inl (nI t)]) (rest := []) (nxt := 6) rfl rfl jm_m1 rfl rfl (ta_pace0 hf ht) ?_
  refine jt_go jm_m67 4 2 (f' := (8, [(0, .inr (.inr (1, 6, 0))), (1, .inl (nI f)), (2, .inl (nI t))], [.inl ((nI (1 + f / 4)) + (nI 1))], h)) (P := True) rfl trivial ?_
  refine jt_ti (show (nI (1 + f / 4)) + (nI 1) = nI (1 + f / 4 + 1) from nI_add _ _) ?_
  refine jt_iret jm_m67 6 rfl ?_
  exact ⟨rfl, rfl⟩
set_option maxHeartbeats 4000000 in
set_option maxRecDepth 20000 in
theorem ta_pace6 {h : jm_M} {f t : Nat} (hf : f < 10) (ht : t < 24) : jt_Pu 53 [.inr (.inr (1, 6, 0)), .inl (nI f), .inl (nI t)] h (.inl (nI (2 * (1 + f / 4 + 1)))) := by
  show jt_T 53 (0, [(0, .inr (.inr (1, 6, 0))), (1, .inl (nI f)), (2, .inl (nI t))], [], h) _
  refine jt_go jm_m53 0 4 (f' := (4, [(0, .inr (.inr (1, 6, 0))), (1, .inl (nI f)), (2, .inl (nI t))], [.inl (nI t), .inl (nI f), .inr (.inr (1, 6, 0)), .inl (nI 2)], h)) (P := True) rfl trivial ?_
  refine jt_callp (w := .inl (nI (1 + f / 4 + 1))) jm_m53 4 (mi' := 67) (as := [.inr (.inr (1, 6, 0)), .inl (nI f), .inl (nI t)]) (rest := [.inl (nI 2)]) (nxt := 7) rfl rfl jm_m67 rfl rfl (ta_pace2_6 hf ht) ?_
  refine jt_go jm_m53 5 1 (f' := (8, [(0, .inr (.inr (1, 6, 0))), (1, .inl (nI f)), (2, .inl (nI t))], [.inl ((nI 2) * (nI (1 + f / 4 + 1)))], h)) (P := True) rfl trivial ?_
  refine jt_ti (show (nI 2) * (nI (1 + f / 4 + 1)) = nI (2 * (1 + f / 4 + 1)) from nI_mul _ _) ?_
  refine jt_iret jm_m53 6 rfl ?_
  exact ⟨rfl, rfl⟩
set_option maxHeartbeats 4000000 in
set_option maxRecDepth 20000 in
theorem ta_skin0 {h : jm_M} {k f : Nat} (hf : f ≤ 99) : jt_Pu 3 [.inr (.inr (1, k, 0)), .inl (nI f)] h (.inl (jm_b (f < 48))) := by
  show jt_T 3 (0, [(0, .inr (.inr (1, k, 0))), (1, .inl (nI f))], [], h) _
  refine jt_go jm_m3 0 2 (f' := (3, [(0, .inr (.inr (1, k, 0))), (1, .inl (nI f))], [.inl (nI 48), .inl (nI f)], h)) (P := True) rfl trivial ?_
  refine jt_nicge jm_m3 2 (a := f) (b := 48) (by omega) (by omega) (tgt := 10) (nxt := 6) rfl rfl rfl (fun c3 => ?_) (fun c3 => ?_)
  · refine jt_go jm_m3 5 1 (f' := (11, [(0, .inr (.inr (1, k, 0))), (1, .inl (nI f))], [.inl (nI 0)], h)) (P := True) rfl trivial ?_
    refine jt_zret jm_m3 6 rfl (Or.inl rfl) ?_
    exact ⟨jt_lb0 (Nat.not_lt.mpr c3), rfl⟩
  · refine jt_go jm_m3 3 2 (f' := (11, [(0, .inr (.inr (1, k, 0))), (1, .inl (nI f))], [.inl (nI 1)], h)) (P := True) rfl trivial ?_
    refine jt_zret jm_m3 6 rfl (Or.inr rfl) ?_
    exact ⟨jt_lb1 (c3), rfl⟩
set_option maxHeartbeats 4000000 in
set_option maxRecDepth 20000 in
theorem ta_skin5 {h : jm_M} {k f : Nat} : jt_Pu 51 [.inr (.inr (1, k, 0)), .inl (nI f)] h (.inl (nI 1)) := by
  show jt_T 51 (0, [(0, .inr (.inr (1, k, 0))), (1, .inl (nI f))], [], h) _
  refine jt_go jm_m51 0 1 (f' := (1, [(0, .inr (.inr (1, k, 0))), (1, .inl (nI f))], [.inl (nI 1)], h)) (P := True) rfl trivial ?_
  refine jt_zret jm_m51 1 rfl (Or.inr rfl) ?_
  exact ⟨rfl, rfl⟩
