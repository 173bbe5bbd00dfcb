/-! SHELVES: row. -/
theorem jx_k0 {a b c d : Nat} (q : c ≠ d) : ((a, b, c) : jm_K) ≠ (a, b, d) := fun z => q (congrArg (fun z : jm_K => z.2.2) z)
set_option maxHeartbeats 4000000 in
set_option maxRecDepth 20000 in
theorem tk_fill_l {h : jm_M} {d : Nat} {v : Int32} : ∀ k, k ≤ 100 → ∀ hm : jm_M, (∀ i, i < k → hm (3, d, 1) i = v) → (∀ q : jm_K, q ≠ (3, d, 1) → hm q = h q) → jt_T 239 (5, [(3, .inl (nI 100)), (2, .inl (nI k)), (0, .inr (.inr (3, d, 1))), (1, .inl (v))], [], hm) (fun u h' => u = none ∧ (∀ i, i < 100 → h' (3, d, 1) i = v) ∧ ∀ q : jm_K, q ≠ (3, d, 1) → h' q = h q) := jx_up (P := fun k => ∀ hm : jm_M, (∀ i, i < k → hm (3, d, 1) i = v) → (∀ q : jm_K, q ≠ (3, d, 1) → hm q = h q) → jt_T 239 (5, [(3, .inl (nI 100)), (2, .inl (nI k)), (0, .inr (.inr (3, d, 1))), (1, .inl (v))], [], hm) (fun u h' => u = none ∧ (∀ i, i < 100 → h' (3, d, 1) i = v) ∧ ∀ q : jm_K, q ≠ (3, d, 1) → h' q = h q)) (fun k hk nx hm Z F => by
  refine jt_go jm_m239 5 2 (f' := (7, [(3, .inl (nI 100)), (2, .inl (nI k)), (0, .inr (.inr (3, d, 1))), (1, .inl (v))], [.inl (nI 100), .inl (nI k)], hm)) (P := True) rfl trivial ?_
  refine jt_nicge jm_m239 7 (a := k) (b := 100) (by omega) (by omega) (tgt := 20) (nxt := 10) rfl rfl rfl (fun c7 => ?_) (fun c7 => ?_)
  · refine jt_vret jm_m239 14 rfl ?_
    have e : k = 100 := by omega
    subst e
    exact ⟨rfl, Z, F⟩
  · refine jt_goM jm_m239 8 4 (pc' := 14) (L' := [(3, .inl (nI 100)), (2, .inl (nI k)), (0, .inr (.inr (3, d, 1))), (1, .inl (v))]) (st' := []) (m' := jm_set hm (3, d, 1) (upd (hm (3, d, 1)) (nI k).toNatClampNeg v)) (P := vp_in (nI k) 100 ∧ True) rfl ⟨(vp_in_nI (by omega) (by decide)), trivial⟩ (fun h1 eh1 => ?_)
    refine jt_inc jm_m239 12 (c := k) (L' := [(2, .inl (nI (k + 1))), (3, .inl (nI 100)), (0, .inr (.inr (3, d, 1))), (1, .inl (v))]) rfl rfl rfl rfl ?_
    refine jt_go jm_m239 13 1 (f' := (5, [(2, .inl (nI (k + 1))), (3, .inl (nI 100)), (0, .inr (.inr (3, d, 1))), (1, .inl (v))], [], h1)) (P := True) rfl trivial ?_
    refine jt_pick (L' := [(3, .inl (nI 100)), (2, .inl (nI (k + 1))), (0, .inr (.inr (3, d, 1))), (1, .inl (v))]) [1, 0, 2, 3] rfl ?_
    exact nx (by omega) h1 (fun i hi => by
      rw [eh1, jm_set_eq, nI_clamp (by omega)]
      by_cases e : i = k
      · rw [e, jx_eq]
      · rw [jx_ne e]; exact Z i (by omega)) (fun q hq => by rw [eh1, jm_set_ne hq]; exact F q hq))
set_option maxHeartbeats 4000000 in
set_option maxRecDepth 20000 in
theorem tk_fill {h : jm_M} {d : Nat} {v : Int32} : jt_T 239 (0, [(0, .inr (.inr (3, d, 1))), (1, .inl (v))], [], h) (fun u h' => u = none ∧ (∀ i, i < 100 → h' (3, d, 1) i = v) ∧ ∀ q : jm_K, q ≠ (3, d, 1) → h' q = h q) := by
  refine jt_go jm_m239 0 5 (f' := (5, [(3, .inl (nI 100)), (2, .inl (nI 0)), (0, .inr (.inr (3, d, 1))), (1, .inl (v))], [], h)) (P := True) rfl trivial ?_
  refine jt_pick (L' := [(3, .inl (nI 100)), (2, .inl (nI 0)), (0, .inr (.inr (3, d, 1))), (1, .inl (v))]) [0, 1, 2, 3] rfl ?_
  exact tk_fill_l 0 (Nat.zero_le _) h (fun i hi => absurd hi (Nat.not_lt_zero i)) (fun q _ => rfl)
set_option maxHeartbeats 4000000 in
set_option maxRecDepth 20000 in
theorem tk_fillv_l {h : jm_M} {v : Int32} : ∀ k, k ≤ 16 → ∀ hm : jm_M, (∀ i, i < k → hm (0, 0, 3) i = v) → (∀ q : jm_K, q ≠ (0, 0, 3) → hm q = h q) → jt_T 239 (5, [(3, .inl (nI 16)), (2, .inl (nI k)), (0, .inr (.inr (0, 0, 3))), (1, .inl (v))], [], hm) (fun u h' => u = none ∧ (∀ i, i < 16 → h' (0, 0, 3) i = v) ∧ ∀ q : jm_K, q ≠ (0, 0, 3) → h' q = h q) := jx_up (P := fun k => ∀ hm : jm_M, (∀ i, i < k → hm (0, 0, 3) i = v) → (∀ q : jm_K, q ≠ (0, 0, 3) → hm q = h q) → jt_T 239 (5, [(3, .inl (nI 16)), (2, .inl (nI k)), (0, .inr (.inr (0, 0, 3))), (1, .inl (v))], [], hm) (fun u h' => u = none ∧ (∀ i, i < 16 → h' (0, 0, 3) i = v) ∧ ∀ q : jm_K, q ≠ (0, 0, 3) → h' q = h q)) (fun k hk nx hm Z F => by
  refine jt_go jm_m239 5 2 (f' := (7, [(3, .inl (nI 16)), (2, .inl (nI k)), (0, .inr (.inr (0, 0, 3))), (1, .inl (v))], [.inl (nI 16), .inl (nI k)], hm)) (P := True) rfl trivial ?_
  refine jt_nicge jm_m239 7 (a := k) (b := 16) (by omega) (by omega) (tgt := 20) (nxt := 10) rfl rfl rfl (fun c7 => ?_) (fun c7 => ?_)
  · refine jt_vret jm_m239 14 rfl ?_
    have e : k = 16 := by omega
    subst e
    exact ⟨rfl, Z, F⟩
  · refine jt_goM jm_m239 8 4 (pc' := 14) (L' := [(3, .inl (nI 16)), (2, .inl (nI k)), (0, .inr (.inr (0, 0, 3))), (1, .inl (v))]) (st' := []) (m' := jm_set hm (0, 0, 3) (upd (hm (0, 0, 3)) (nI k).toNatClampNeg v)) (P := vp_in (nI k) 16 ∧ True) rfl ⟨(vp_in_nI (by omega) (by decide)), trivial⟩ (fun h1 eh1 => ?_)
    refine jt_inc jm_m239 12 (c := k) (L' := [(2, .inl (nI (k + 1))), (3, .inl (nI 16)), (0, .inr (.inr (0, 0, 3))), (1, .inl (v))]) rfl rfl rfl rfl ?_
    refine jt_go jm_m239 13 1 (f' := (5, [(2, .inl (nI (k + 1))), (3, .inl (nI 16)), (0, .inr (.inr (0, 0, 3))), (1, .inl (v))], [], h1)) (P := True) rfl trivial ?_
    refine jt_pick (L' := [(3, .inl (nI 16)), (2, .inl (nI (k + 1))), (0, .inr (.inr (0, 0, 3))), (1, .inl (v))]) [1, 0, 2, 3] rfl ?_
    exact nx (by omega) h1 (fun i hi => by
      rw [eh1, jm_set_eq, nI_clamp (by omega)]
      by_cases e : i = k
      · rw [e, jx_eq]
      · rw [jx_ne e]; exact Z i (by omega)) (fun q hq => by rw [eh1, jm_set_ne hq]; exact F q hq))
set_option maxHeartbeats 4000000 in
set_option maxRecDepth 20000 in
theorem tk_fillv {h : jm_M} {v : Int32} : jt_T 239 (0, [(0, .inr (.inr (0, 0, 3))), (1, .inl (v))], [], h) (fun u h' => u = none ∧ (∀ i, i < 16 → h' (0, 0, 3) i = v) ∧ ∀ q : jm_K, q ≠ (0, 0, 3) → h' q = h q) := by
  refine jt_go jm_m239 0 5 (f' := (5, [(3, .inl (nI 16)), (2, .inl (nI 0)), (0, .inr (.inr (0, 0, 3))), (1, .inl (v))], [], h)) (P := True) rfl trivial ?_
  refine jt_pick (L' := [(3, .inl (nI 16)), (2, .inl (nI 0)), (0, .inr (.inr (0, 0, 3))), (1, .inl (v))]) [0, 1, 2, 3] rfl ?_
  exact tk_fillv_l 0 (Nat.zero_le _) h (fun i hi => absurd hi (Nat.not_lt_zero i)) (fun q _ => rfl)
set_option maxHeartbeats 4000000 in
set_option maxRecDepth 20000 in
theorem tk_hrow {h : jm_M} {d : Nat} {z v : Int32} : jt_T 43 (0, [(0, .inr (.inr (3, d, 0))), (1, .inl (z)), (2, .inl (v))], [], h) (fun u h' => u = none ∧ (h' (3, d, 0) 0 = nI 2 ∧ h' (3, d, 0) 3 = z ∧ h' (3, d, 0) 4 = v) ∧ (∀ i, i < 100 → h' (3, d, 1) i = nI 0) ∧ ∀ k : jm_K, ¬ (k.1 = 3 ∧ k.2.1 = d) → h' k = h k) := by
  refine jt_goM jm_m43 0 3 (pc' := 5) (L' := [(0, .inr (.inr (3, d, 0))), (1, .inl (z)), (2, .inl (v))]) (st' := []) (m' := jm_set h (3, d, 0) (upd (h (3, d, 0)) 0 (nI 2))) (P := True) rfl trivial (fun h1 eh1 => ?_)
  refine jt_goM jm_m43 3 3 (pc' := 10) (L' := [(0, .inr (.inr (3, d, 0))), (1, .inl (z)), (2, .inl (v))]) (st' := []) (m' := jm_set h1 (3, d, 0) (upd (h1 (3, d, 0)) 3 z)) (P := True) rfl trivial (fun h2 eh2 => ?_)
  refine jt_goM jm_m43 6 3 (pc' := 15) (L' := [(0, .inr (.inr (3, d, 0))), (1, .inl (z)), (2, .inl (v))]) (st' := []) (m' := jm_set h2 (3, d, 0) (upd (h2 (3, d, 0)) 4 v)) (P := True) rfl trivial (fun h3 eh3 => ?_)
  refine jt_go jm_m43 9 3 (f' := (20, [(0, .inr (.inr (3, d, 0))), (1, .inl (z)), (2, .inl (v))], [.inl (nI 0), .inr (.inr (3, d, 1))], h3)) (P := True) rfl trivial ?_
  refine jt_call jm_m43 12 (mi' := 239) (as := [.inr (.inr (3, d, 1)), .inl (nI 0)]) (rest := []) (nxt := 23) rfl rfl jm_m239 rfl rfl (tk_fill) ?_
  rintro u h4 ⟨rfl, Z, F⟩
  show jt_T 43 (23, [(0, .inr (.inr (3, d, 0))), (1, .inl (z)), (2, .inl (v))], [], h4) _
  refine jt_vret jm_m43 13 rfl ?_
  refine ⟨rfl, ?_, Z, fun k hk => by rw [F k (fun q => hk (by rw [q]; exact ⟨rfl, rfl⟩)), eh3, jm_set_ne (fun q => hk (by rw [q]; exact ⟨rfl, rfl⟩)), eh2, jm_set_ne (fun q => hk (by rw [q]; exact ⟨rfl, rfl⟩)), eh1, jm_set_ne (fun q => hk (by rw [q]; exact ⟨rfl, rfl⟩))]⟩
  have a : h4 (3, d, 0) = upd (upd (upd (h (3, d, 0)) 0 (nI 2)) 3 z) 4 v := by rw [F _ (jx_k0 (by decide)), eh3, jm_set_eq, eh2, jm_set_eq, eh1, jm_set_eq]
  rw [a]
  exact ⟨rfl, rfl, rfl⟩
/-- what row asks of its arguments, and what it makes of the shelf -/
abbrev rw_ok (x y z : Int32) : Prop := (nI 0 ≤ x ∧ x ≤ nI 7) ∧ (nI 0 ≤ y ∧ y ≤ nI 2) ∧ ¬ nI 100 < z
def rw_t (y z : Int32) : Nat → Nat := fun k => if k = 0 then 2 else if k = 3 then y.toNatClampNeg else z.toNatClampNeg
def za_row (x y z : Int32) : Int32 := if rw_ok x y z then (if z < 0 then (-14) else nI 0) else (-1)
def zs_row (s : Nat → Nat → Nat) (x y z : Int32) : Nat → Nat → Nat := if rw_ok x y z ∧ ¬ z < 0 then ks_put s x.toNatClampNeg (rw_t y z) else s
def ze_row (e : Nat → Nat → Int32) (x y z : Int32) : Nat → Nat → Int32 := if rw_ok x y z ∧ ¬ z < 0 then ks_put e x.toNatClampNeg (fun _ => nI 0) else e
theorem rw_z {z : Int32} (a : ¬ nI 100 < z) (b : ¬ z < 0) : ∃ n : Nat, n ≤ 100 ∧ z = nI n := jx_win (by decide) ⟨Int32.not_lt.mp b, Int32.not_lt.mp a⟩
theorem rw_nn {n : Nat} (h : n ≤ 100) : ¬ nI n < 0 := fun z => absurd ((nI_ltI (show n < 2 ^ 31 by omega) (show 0 < 2 ^ 31 by decide)).mp z) (Nat.not_lt_zero _)
theorem rw_100 {n : Nat} (h : n ≤ 100) : ¬ nI 100 < nI n := fun z => absurd ((nI_ltI (by decide) (show n < 2 ^ 31 by omega)).mp z) (by omega)
theorem kw_row {s : Nat → Nat → Nat} (W : kw s) (x y z : Int32) : kw (zs_row s x y z) := by
  unfold zs_row
  split
  · rename_i q
    obtain ⟨⟨q1, q2, q3⟩, q4⟩ := q
    refine kw_put W ?_
    obtain ⟨c, hc, rfl⟩ := jx_win (by decide) q2
    obtain ⟨n, hn, rfl⟩ := rw_z q3 q4
    refine ⟨Nat.le_refl 2, fun z => absurd z (show ¬ (2 : Nat) = 1 by decide), fun _ => ?_⟩
    show (nI c).toNatClampNeg ≤ 2 ∧ (nI n).toNatClampNeg ≤ 100
    rw [nI_clamp (by omega), nI_clamp (by omega)]
    omega
  · exact W
set_option maxHeartbeats 4000000 in
set_option maxRecDepth 20000 in
theorem ck_row {h : jm_M} {s : Nat → Nat → Nat} {e : Nat → Nat → Int32} (K : jk_rel h s e) (Y : kw s) {x y z : Int32} : jt_T 128 (0, [(0, .inr (.inr (0, 0, 0))), (1, .inl (x)), (2, .inl (y)), (3, .inl (z))], [], h) (fun u h' => u = some (.inl (za_row x y z)) ∧ jk_rel h' (zs_row s x y z) (ze_row e x y z) ∧ jk_fr h h') := by
  refine jt_go jm_m128 0 1 (f' := (1, [(0, .inr (.inr (0, 0, 0))), (1, .inl (x)), (2, .inl (y)), (3, .inl (z))], [.inl (x)], h)) (P := True) rfl trivial ?_
  refine jt_callp (w := .inl (jm_b (nI 0 ≤ x ∧ x ≤ nI 7))) jm_m128 1 (mi' := 137) (as := [.inl (x)]) (rest := []) (nxt := 4) rfl rfl jm_m137 rfl rfl (ta_shelf) ?_
  refine jt_ifbeq jm_m128 2 (tgt := 22) (nxt := 7) rfl rfl rfl (fun c4 => ?_) (fun c4 => ?_)
  · refine jt_go jm_m128 11 1 (f' := (23, [(0, .inr (.inr (0, 0, 0))), (1, .inl (x)), (2, .inl (y)), (3, .inl (z))], [.inl ((-1))], h)) (P := True) rfl trivial ?_
    refine jt_iret jm_m128 12 rfl ?_
    have ng : ¬ rw_ok x y z := fun a => c4 a.1
    exact ⟨jt_li (if_neg ng).symm, by unfold zs_row ze_row; rw [if_neg (fun z => ng z.1), if_neg (fun z => ng z.1)]; exact K, jk_fr_rf⟩
  · have r4 := c4
    obtain ⟨d, hd, rfl⟩ := jx_win (by decide) r4
    show jt_T 128 (7, [(0, .inr (.inr (0, 0, 0))), (1, .inl (nI d)), (2, .inl (y)), (3, .inl (z))], [], h) _
    refine jt_go jm_m128 3 3 (f' := (10, [(0, .inr (.inr (0, 0, 0))), (1, .inl (nI d)), (2, .inl (y)), (3, .inl (z))], [.inl (nI 2), .inl (nI 0), .inl (y)], h)) (P := True) rfl trivial ?_
    refine jt_callp (w := .inl (jm_b (nI 0 ≤ y ∧ y ≤ nI 2))) jm_m128 6 (mi' := 136) (as := [.inl (y), .inl (nI 0), .inl (nI 2)]) (rest := []) (nxt := 13) rfl rfl jm_m136 rfl rfl (ta_within) ?_
    refine jt_ifbeq jm_m128 7 (tgt := 22) (nxt := 16) rfl rfl rfl (fun c13 => ?_) (fun c13 => ?_)
    · refine jt_go jm_m128 11 1 (f' := (23, [(0, .inr (.inr (0, 0, 0))), (1, .inl (nI d)), (2, .inl (y)), (3, .inl (z))], [.inl ((-1))], h)) (P := True) rfl trivial ?_
      refine jt_iret jm_m128 12 rfl ?_
      have ng : ¬ rw_ok (nI d) y z := fun a => c13 a.2.1
      exact ⟨jt_li (if_neg ng).symm, by unfold zs_row ze_row; rw [if_neg (fun z => ng z.1), if_neg (fun z => ng z.1)]; exact K, jk_fr_rf⟩
    · have r13 := c13
      obtain ⟨c, hc, rfl⟩ := jx_win (by decide) r13
      show jt_T 128 (16, [(0, .inr (.inr (0, 0, 0))), (1, .inl (nI d)), (2, .inl (nI c)), (3, .inl (z))], [], h) _
      refine jt_go jm_m128 8 2 (f' := (19, [(0, .inr (.inr (0, 0, 0))), (1, .inl (nI d)), (2, .inl (nI c)), (3, .inl (z))], [.inl (nI 100), .inl (z)], h)) (P := True) rfl trivial ?_
      refine jt_icle jm_m128 10 (tgt := 24) (nxt := 22) rfl rfl rfl (fun c19 => ?_) (fun c19 => ?_)
      · refine jt_go jm_m128 13 1 (f' := (25, [(0, .inr (.inr (0, 0, 0))), (1, .inl (nI d)), (2, .inl (nI c)), (3, .inl (z))], [.inl (z)], h)) (P := True) rfl trivial ?_
        refine jt_ifge jm_m128 14 (tgt := 31) (nxt := 28) rfl rfl rfl (fun c25 => ?_) (fun c25 => ?_)
        · have r25 := c25
          obtain ⟨n, hn, rfl⟩ := rw_z c19 r25
          show jt_T 128 (31, [(0, .inr (.inr (0, 0, 0))), (1, .inl (nI d)), (2, .inl (nI c)), (3, .inl (nI n))], [], h) _
          refine jt_go jm_m128 17 4 (f' := (37, [(0, .inr (.inr (0, 0, 0))), (1, .inl (nI d)), (2, .inl (nI c)), (3, .inl (nI n))], [.inr (.inr (3, (nI d).toNatClampNeg, 0))], h)) (P := vp_in (nI d) 8 ∧ True) rfl ⟨(vp_in_nI (by omega) (by decide)), trivial⟩ ?_
          refine jt_tr (show ((3, (nI d).toNatClampNeg, 0) : jm_K) = (3, d, 0) by rw [nI_clamp (by omega)]) ?_
          refine jt_go jm_m128 21 2 (f' := (39, [(0, .inr (.inr (0, 0, 0))), (1, .inl (nI d)), (2, .inl (nI c)), (3, .inl (nI n))], [.inl (nI n), .inl (nI c), .inr (.inr (3, d, 0))], h)) (P := True) rfl trivial ?_
          refine jt_call jm_m128 23 (mi' := 43) (as := [.inr (.inr (3, d, 0)), .inl (nI c), .inl (nI n)]) (rest := []) (nxt := 42) rfl rfl jm_m43 rfl rfl (tk_hrow) ?_
          rintro u h1 ⟨rfl, ⟨n1, n2, n3⟩, n4, F1⟩
          show jt_T 128 (42, [(0, .inr (.inr (0, 0, 0))), (1, .inl (nI d)), (2, .inl (nI c)), (3, .inl (nI n))], [], h1) _
          refine jt_go jm_m128 24 1 (f' := (43, [(0, .inr (.inr (0, 0, 0))), (1, .inl (nI d)), (2, .inl (nI c)), (3, .inl (nI n))], [.inl (nI 0)], h1)) (P := True) rfl trivial ?_
          refine jt_iret jm_m128 25 rfl ?_
          have ok : rw_ok (nI d) (nI c) (nI n) := ⟨c4, c13, rw_100 hn⟩
          have ok2 : rw_ok (nI d) (nI c) (nI n) ∧ ¬ nI n < 0 := ⟨ok, rw_nn hn⟩
          refine ⟨jt_li ((if_pos ok).trans (if_neg (rw_nn hn))).symm, ?_, jk_fr_one F1⟩
          unfold zs_row ze_row
          rw [if_pos ok2, if_pos ok2, nI_clamp (by omega)]
          have t3 : rw_t (nI c) (nI n) 3 = c := nI_clamp (by omega)
          have t4 : rw_t (nI c) (nI n) 4 = n := nI_clamp (by omega)
          refine jk_put K F1 ⟨n1, fun q => absurd q (show ¬ (2 : Nat) = 1 by decide), fun _ => ⟨?_, ?_, n4⟩⟩
          · rw [t3]; exact n2
          · rw [t4]; exact n3
        · refine jt_go jm_m128 15 1 (f' := (30, [(0, .inr (.inr (0, 0, 0))), (1, .inl (nI d)), (2, .inl (nI c)), (3, .inl (z))], [.inl ((-14))], h)) (P := True) rfl trivial ?_
          refine jt_iret jm_m128 16 rfl ?_
          have ok : rw_ok (nI d) (nI c) z := ⟨c4, c13, c19⟩
          exact ⟨jt_li ((if_pos ok).trans (if_pos c25)).symm, by unfold zs_row ze_row; rw [if_neg (fun z => z.2 c25), if_neg (fun z => z.2 c25)]; exact K, jk_fr_rf⟩
      · refine jt_go jm_m128 11 1 (f' := (23, [(0, .inr (.inr (0, 0, 0))), (1, .inl (nI d)), (2, .inl (nI c)), (3, .inl (z))], [.inl ((-1))], h)) (P := True) rfl trivial ?_
        refine jt_iret jm_m128 12 rfl ?_
        have ng : ¬ rw_ok (nI d) (nI c) z := fun a => a.2.2 c19
        exact ⟨jt_li (if_neg ng).symm, by unfold zs_row ze_row; rw [if_neg (fun z => ng z.1), if_neg (fun z => ng z.1)]; exact K, jk_fr_rf⟩
set_option maxHeartbeats 4000000 in
set_option maxRecDepth 20000 in
theorem cl_row_l {h : jm_M} {d c n : Nat} (hd : d ≤ 7) : ∀ k, k ≤ 100 → ∀ hm : jm_M, (∀ i, i < k → hm (4, 0, 8) (100 * d + i) = nI 0) → (∀ i, ¬ (100 * d ≤ i ∧ i < 100 * d + 100) → hm (4, 0, 8) i = h (4, 0, 8) i) → (∀ q : jm_K, q ≠ (4, 0, 8) → hm q = h q) → jt_T 231 (55, [(0, .inr (.inr (4, 0, 0))), (1, .inl (nI d)), (2, .inl (nI c)), (3, .inl (nI n)), (4, .inl (nI k))], [], hm) (fun u h' => u = some (.inl (nI 0)) ∧ (∀ i, i < 100 → h' (4, 0, 8) (100 * d + i) = nI 0) ∧ (∀ i, ¬ (100 * d ≤ i ∧ i < 100 * d + 100) → h' (4, 0, 8) i = h (4, 0, 8) i) ∧ ∀ q : jm_K, q ≠ (4, 0, 8) → h' q = h q) := jx_up (P := fun k => ∀ hm : jm_M, (∀ i, i < k → hm (4, 0, 8) (100 * d + i) = nI 0) → (∀ i, ¬ (100 * d ≤ i ∧ i < 100 * d + 100) → hm (4, 0, 8) i = h (4, 0, 8) i) → (∀ q : jm_K, q ≠ (4, 0, 8) → hm q = h q) → jt_T 231 (55, [(0, .inr (.inr (4, 0, 0))), (1, .inl (nI d)), (2, .inl (nI c)), (3, .inl (nI n)), (4, .inl (nI k))], [], hm) (fun u h' => u = some (.inl (nI 0)) ∧ (∀ i, i < 100 → h' (4, 0, 8) (100 * d + i) = nI 0) ∧ (∀ i, ¬ (100 * d ≤ i ∧ i < 100 * d + 100) → h' (4, 0, 8) i = h (4, 0, 8) i) ∧ ∀ q : jm_K, q ≠ (4, 0, 8) → h' q = h q)) (fun k hk nx hm Z G F => by
  refine jt_go jm_m231 34 2 (f' := (59, [(0, .inr (.inr (4, 0, 0))), (1, .inl (nI d)), (2, .inl (nI c)), (3, .inl (nI n)), (4, .inl (nI k))], [.inl (nI 100), .inl (nI k)], hm)) (P := True) rfl trivial ?_
  refine jt_nicge jm_m231 36 (a := k) (b := 100) (by omega) (by omega) (tgt := 81) (nxt := 62) rfl rfl rfl (fun c59 => ?_) (fun c59 => ?_)
  · refine jt_go jm_m231 48 1 (f' := (82, [(0, .inr (.inr (4, 0, 0))), (1, .inl (nI d)), (2, .inl (nI c)), (3, .inl (nI n)), (4, .inl (nI k))], [.inl (nI 0)], hm)) (P := True) rfl trivial ?_
    refine jt_iret jm_m231 49 rfl ?_
    have e : k = 100 := by omega
    subst e
    exact ⟨rfl, Z, G, F⟩
  · refine jt_go jm_m231 37 5 (f' := (70, [(0, .inr (.inr (4, 0, 0))), (1, .inl (nI d)), (2, .inl (nI c)), (3, .inl (nI n)), (4, .inl (nI k))], [.inl ((nI 100) * (nI d)), .inr (.inr (4, 0, 8))], hm)) (P := True) rfl trivial ?_
    refine jt_ti (show ((nI 100) * (nI d)) = nI (100 * d) from nI_mul _ _) ?_
    refine jt_go jm_m231 42 2 (f' := (73, [(0, .inr (.inr (4, 0, 0))), (1, .inl (nI d)), (2, .inl (nI c)), (3, .inl (nI n)), (4, .inl (nI k))], [.inl ((nI (100 * d)) + (nI k)), .inr (.inr (4, 0, 8))], hm)) (P := True) rfl trivial ?_
    refine jt_ti (show ((nI (100 * d)) + (nI k)) = nI (100 * d + k) from nI_add _ _) ?_
    refine jt_goM jm_m231 44 2 (pc' := 75) (L' := [(0, .inr (.inr (4, 0, 0))), (1, .inl (nI d)), (2, .inl (nI c)), (3, .inl (nI n)), (4, .inl (nI k))]) (st' := []) (m' := jm_set hm (4, 0, 8) (upd (hm (4, 0, 8)) (nI (100 * d + k)).toNatClampNeg (nI 0))) (P := vp_in (nI (100 * d + k)) 800 ∧ True) rfl ⟨(vp_in_nI (by omega) (by decide)), trivial⟩ (fun h1 eh1 => ?_)
    refine jt_inc jm_m231 46 (c := k) (L' := [(4, .inl (nI (k + 1))), (0, .inr (.inr (4, 0, 0))), (1, .inl (nI d)), (2, .inl (nI c)), (3, .inl (nI n))]) rfl rfl rfl rfl ?_
    refine jt_go jm_m231 47 1 (f' := (55, [(4, .inl (nI (k + 1))), (0, .inr (.inr (4, 0, 0))), (1, .inl (nI d)), (2, .inl (nI c)), (3, .inl (nI n))], [], h1)) (P := True) rfl trivial ?_
    refine jt_pick (L' := [(0, .inr (.inr (4, 0, 0))), (1, .inl (nI d)), (2, .inl (nI c)), (3, .inl (nI n)), (4, .inl (nI (k + 1)))]) [1, 2, 3, 4, 0] rfl ?_
    exact nx (by omega) h1 (fun i hi => by
      rw [eh1, jm_set_eq, nI_clamp (by omega)]
      by_cases e : i = k
      · rw [e, jx_eq]
      · rw [jx_ne (by omega)]; exact Z i (by omega)) (fun i hi => by rw [eh1, jm_set_eq, nI_clamp (by omega), jx_ne (by omega)]; exact G i hi) (fun q hq => by rw [eh1, jm_set_ne hq]; exact F q hq))
set_option maxHeartbeats 4000000 in
set_option maxRecDepth 20000 in
theorem cl_row {h : jm_M} {s : Nat → Nat → Nat} {e : Nat → Nat → Int32} (K : jl_rel h s e) (Y : kw s) {x y z : Int32} : jt_T 231 (0, [(0, .inr (.inr (4, 0, 0))), (1, .inl (x)), (2, .inl (y)), (3, .inl (z))], [], h) (fun u h' => u = some (.inl (za_row x y z)) ∧ jl_rel h' (zs_row s x y z) (ze_row e x y z) ∧ jl_fr h h') := by
  refine jt_go jm_m231 0 1 (f' := (1, [(0, .inr (.inr (4, 0, 0))), (1, .inl (x)), (2, .inl (y)), (3, .inl (z))], [.inl (x)], h)) (P := True) rfl trivial ?_
  refine jt_callp (w := .inl (jm_b (nI 0 ≤ x ∧ x ≤ nI 7))) jm_m231 1 (mi' := 227) (as := [.inl (x)]) (rest := []) (nxt := 4) rfl rfl jm_m227 rfl rfl (tb_shelf) ?_
  refine jt_ifbeq jm_m231 2 (tgt := 22) (nxt := 7) rfl rfl rfl (fun c4 => ?_) (fun c4 => ?_)
  · refine jt_go jm_m231 11 1 (f' := (23, [(0, .inr (.inr (4, 0, 0))), (1, .inl (x)), (2, .inl (y)), (3, .inl (z))], [.inl ((-1))], h)) (P := True) rfl trivial ?_
    refine jt_iret jm_m231 12 rfl ?_
    have ng : ¬ rw_ok x y z := fun a => c4 a.1
    exact ⟨jt_li (if_neg ng).symm, by unfold zs_row ze_row; rw [if_neg (fun z => ng z.1), if_neg (fun z => ng z.1)]; exact K, jl_fr_rf⟩
  · have r4 := c4
    obtain ⟨d, hd, rfl⟩ := jx_win (by decide) r4
    show jt_T 231 (7, [(0, .inr (.inr (4, 0, 0))), (1, .inl (nI d)), (2, .inl (y)), (3, .inl (z))], [], h) _
    refine jt_go jm_m231 3 3 (f' := (10, [(0, .inr (.inr (4, 0, 0))), (1, .inl (nI d)), (2, .inl (y)), (3, .inl (z))], [.inl (nI 2), .inl (nI 0), .inl (y)], h)) (P := True) rfl trivial ?_
    refine jt_callp (w := .inl (jm_b (nI 0 ≤ y ∧ y ≤ nI 2))) jm_m231 6 (mi' := 143) (as := [.inl (y), .inl (nI 0), .inl (nI 2)]) (rest := []) (nxt := 13) rfl rfl jm_m143 rfl rfl (tb_isIn) ?_
    refine jt_ifbeq jm_m231 7 (tgt := 22) (nxt := 16) rfl rfl rfl (fun c13 => ?_) (fun c13 => ?_)
    · refine jt_go jm_m231 11 1 (f' := (23, [(0, .inr (.inr (4, 0, 0))), (1, .inl (nI d)), (2, .inl (y)), (3, .inl (z))], [.inl ((-1))], h)) (P := True) rfl trivial ?_
      refine jt_iret jm_m231 12 rfl ?_
      have ng : ¬ rw_ok (nI d) y z := fun a => c13 a.2.1
      exact ⟨jt_li (if_neg ng).symm, by unfold zs_row ze_row; rw [if_neg (fun z => ng z.1), if_neg (fun z => ng z.1)]; exact K, jl_fr_rf⟩
    · have r13 := c13
      obtain ⟨c, hc, rfl⟩ := jx_win (by decide) r13
      show jt_T 231 (16, [(0, .inr (.inr (4, 0, 0))), (1, .inl (nI d)), (2, .inl (nI c)), (3, .inl (z))], [], h) _
      refine jt_go jm_m231 8 2 (f' := (19, [(0, .inr (.inr (4, 0, 0))), (1, .inl (nI d)), (2, .inl (nI c)), (3, .inl (z))], [.inl (nI 100), .inl (z)], h)) (P := True) rfl trivial ?_
      refine jt_icle jm_m231 10 (tgt := 24) (nxt := 22) rfl rfl rfl (fun c19 => ?_) (fun c19 => ?_)
      · refine jt_go jm_m231 13 1 (f' := (25, [(0, .inr (.inr (4, 0, 0))), (1, .inl (nI d)), (2, .inl (nI c)), (3, .inl (z))], [.inl (z)], h)) (P := True) rfl trivial ?_
        refine jt_ifge jm_m231 14 (tgt := 31) (nxt := 28) rfl rfl rfl (fun c25 => ?_) (fun c25 => ?_)
        · have r25 := c25
          obtain ⟨n, hn, rfl⟩ := rw_z c19 r25
          show jt_T 231 (31, [(0, .inr (.inr (4, 0, 0))), (1, .inl (nI d)), (2, .inl (nI c)), (3, .inl (nI n))], [], h) _
          refine jt_goM jm_m231 17 5 (pc' := 38) (L' := [(0, .inr (.inr (4, 0, 0))), (1, .inl (nI d)), (2, .inl (nI c)), (3, .inl (nI n))]) (st' := []) (m' := jm_set h (4, 0, 3) (upd (h (4, 0, 3)) (nI d).toNatClampNeg (nI 2))) (P := vp_in (nI d) 8 ∧ True) rfl ⟨(vp_in_nI (by omega) (by decide)), trivial⟩ (fun h1 eh1 => ?_)
          refine jt_goM jm_m231 22 5 (pc' := 45) (L' := [(0, .inr (.inr (4, 0, 0))), (1, .inl (nI d)), (2, .inl (nI c)), (3, .inl (nI n))]) (st' := []) (m' := jm_set h1 (4, 0, 6) (upd (h1 (4, 0, 6)) (nI d).toNatClampNeg (nI c))) (P := vp_in (nI d) 8 ∧ True) rfl ⟨(vp_in_nI (by omega) (by decide)), trivial⟩ (fun h2 eh2 => ?_)
          refine jt_goM jm_m231 27 5 (pc' := 52) (L' := [(0, .inr (.inr (4, 0, 0))), (1, .inl (nI d)), (2, .inl (nI c)), (3, .inl (nI n))]) (st' := []) (m' := jm_set h2 (4, 0, 7) (upd (h2 (4, 0, 7)) (nI d).toNatClampNeg (nI n))) (P := vp_in (nI d) 8 ∧ True) rfl ⟨(vp_in_nI (by omega) (by decide)), trivial⟩ (fun h3 eh3 => ?_)
          refine jt_go jm_m231 32 2 (f' := (55, [(4, .inl (nI 0)), (0, .inr (.inr (4, 0, 0))), (1, .inl (nI d)), (2, .inl (nI c)), (3, .inl (nI n))], [], h3)) (P := True) rfl trivial ?_
          refine jt_pick (L' := [(0, .inr (.inr (4, 0, 0))), (1, .inl (nI d)), (2, .inl (nI c)), (3, .inl (nI n)), (4, .inl (nI 0))]) [1, 2, 3, 4, 0] rfl ?_
          refine jt_mono (cl_row_l hd 0 (Nat.zero_le _) h3 (fun i hi => absurd hi (Nat.not_lt_zero i)) (fun _ _ => rfl) (fun _ _ => rfl)) (fun u h9 zz => ?_)
          obtain ⟨z0, Z, G, F⟩ := zz
          have ok : rw_ok (nI d) (nI c) (nI n) := ⟨c4, c13, rw_100 hn⟩
          have ok2 : rw_ok (nI d) (nI c) (nI n) ∧ ¬ nI n < 0 := ⟨ok, rw_nn hn⟩
          have a3 : h9 (4, 0, 3) = upd (h (4, 0, 3)) d (nI 2) := (F _ (by decide)).trans (by rw [eh3, jm_set_ne (by decide), eh2, jm_set_ne (by decide), eh1, jm_set_eq, nI_clamp (by omega)])
          have a6 : h9 (4, 0, 6) = upd (h (4, 0, 6)) d (nI c) := (F _ (by decide)).trans (by rw [eh3, jm_set_ne (by decide), eh2, jm_set_eq, nI_clamp (by omega), eh1, jm_set_ne (by decide)])
          have a7 : h9 (4, 0, 7) = upd (h (4, 0, 7)) d (nI n) := (F _ (by decide)).trans (by rw [eh3, jm_set_eq, nI_clamp (by omega), eh2, jm_set_ne (by decide), eh1, jm_set_ne (by decide)])
          have a4 : h9 (4, 0, 4) = h (4, 0, 4) := (F _ (by decide)).trans (by rw [eh3, jm_set_ne (by decide), eh2, jm_set_ne (by decide), eh1, jm_set_ne (by decide)])
          have a5 : h9 (4, 0, 5) = h (4, 0, 5) := (F _ (by decide)).trans (by rw [eh3, jm_set_ne (by decide), eh2, jm_set_ne (by decide), eh1, jm_set_ne (by decide)])
          have a8 : h3 (4, 0, 8) = h (4, 0, 8) := by rw [eh3, jm_set_ne (by decide), eh2, jm_set_ne (by decide), eh1, jm_set_ne (by decide)]
          refine ⟨z0.trans (jt_li ((if_pos ok).trans (if_neg (rw_nn hn))).symm), ?_, fun k hk => ?_⟩
          · unfold zs_row ze_row
            rw [if_pos ok2, if_pos ok2, nI_clamp (by omega)]
            have t3 : rw_t (nI c) (nI n) 3 = c := nI_clamp (by omega)
            have t4 : rw_t (nI c) (nI n) 4 = n := nI_clamp (by omega)
            refine jl_put K (fun d2 h2 q w => ?_) ?_
            · unfold jl_one at w ⊢
              rw [a3, a4, a5, a6, a7, jx_ne q, jx_ne q, jx_ne q]
              exact ⟨w.1, w.2.1, fun p => ⟨(w.2.2 p).1, (w.2.2 p).2.1, fun i hi => by rw [G _ (by omega), a8]; exact (w.2.2 p).2.2 i hi⟩⟩
            · unfold jl_one
              rw [a3, a4, a5, a6, a7, jx_eq, jx_eq, jx_eq, t3, t4]
              exact ⟨rfl, fun q => absurd q (show ¬ (2 : Nat) = 1 by decide), fun _ => ⟨rfl, rfl, Z⟩⟩
          · rw [F k (fun q => hk (by rw [q]; decide)), eh3, jm_set_ne (fun q => hk (by rw [q]; decide)), eh2, jm_set_ne (fun q => hk (by rw [q]; decide)), eh1, jm_set_ne (fun q => hk (by rw [q]; decide))]
        · refine jt_go jm_m231 15 1 (f' := (30, [(0, .inr (.inr (4, 0, 0))), (1, .inl (nI d)), (2, .inl (nI c)), (3, .inl (z))], [.inl ((-14))], h)) (P := True) rfl trivial ?_
          refine jt_iret jm_m231 16 rfl ?_
          have ok : rw_ok (nI d) (nI c) z := ⟨c4, c13, c19⟩
          exact ⟨jt_li ((if_pos ok).trans (if_pos c25)).symm, by unfold zs_row ze_row; rw [if_neg (fun z => z.2 c25), if_neg (fun z => z.2 c25)]; exact K, jl_fr_rf⟩
      · refine jt_go jm_m231 11 1 (f' := (23, [(0, .inr (.inr (4, 0, 0))), (1, .inl (nI d)), (2, .inl (nI c)), (3, .inl (z))], [.inl ((-1))], h)) (P := True) rfl trivial ?_
        refine jt_iret jm_m231 12 rfl ?_
        have ng : ¬ rw_ok (nI d) (nI c) z := fun a => a.2.2 c19
        exact ⟨jt_li (if_neg ng).symm, by unfold zs_row ze_row; rw [if_neg (fun z => ng z.1), if_neg (fun z => ng z.1)]; exact K, jl_fr_rf⟩
