/-! THE FACE: mean, dogs. -/
theorem jl_rt {x y : Int64} (h : x = y) : (some (.inr (.inl x)) : Option jm_V) = some (.inr (.inl y)) := by rw [h]
set_option maxHeartbeats 4000000 in
set_option maxRecDepth 20000 in
theorem ca_mean {h : jm_M} {g : Nat → Nat} (R : jf_rel h 0 g) (W : jw g) {x : Int32} : jt_T 115 (0, [(0, .inr (.inr (0, 0, 0))), (1, .inl (x))], [], h) (fun u h' => u = some (.inr (.inl (za_mean g x))) ∧ jf_fr 1 h h') := by
  have bn := jw_n W
  have bm := jw_m W
  have bt := jw_t W
  refine jt_go jm_m115 0 3 (f' := (3, [(0, .inr (.inr (0, 0, 0))), (1, .inl (x))], [.inl (nI 1), .inl (nI 0), .inl (x)], h)) (P := True) rfl trivial ?_
  refine jt_callp (w := .inl (jm_b (nI 0 ≤ x ∧ x ≤ nI 1))) jm_m115 3 (mi' := 136) (as := [.inl (x), .inl (nI 0), .inl (nI 1)]) (rest := []) (nxt := 6) rfl rfl jm_m136 rfl rfl (ta_within) ?_
  refine jt_ifbne jm_m115 4 (tgt := 13) (nxt := 9) rfl rfl rfl (fun c6 => ?_) (fun c6 => ?_)
  · obtain ⟨w, hbw, rfl⟩ := jx_win (by decide) c6
    refine jt_go jm_m115 7 3 (f' := (20, [(0, .inr (.inr (0, 0, 0))), (1, .inl (nI w))], [.inl (h (2, 0, 0) 9)], h)) (P := True) rfl trivial ?_
    refine jt_ti (show (h (2, 0, 0) 9) = nI (g 0) from jf_cats R) ?_
    have bq1 := jw_n W
    refine jt_nifne jm_m115 10 (by omega) (tgt := 26) (nxt := 23) rfl rfl rfl (fun c20 => ?_) (fun c20 => ?_)
    · refine jt_go jm_m115 14 4 (f' := (30, [(3, .inl (nI 0)), (2, .inl (nI 0)), (0, .inr (.inr (0, 0, 0))), (1, .inl (nI w))], [], h)) (P := True) rfl trivial ?_
      refine jt_pick (L' := [(0, .inr (.inr (0, 0, 0))), (1, .inl (nI w)), (2, .inl (nI 0)), (3, .inl (nI 0))]) [2, 3, 1, 0] rfl ?_
      refine jt_mono (ca_mean_l R W hbw (by omega) 0 (Nat.zero_le _)) (fun u h2 zz => ⟨zz.1.trans (jl_rt ?_), by rw [zz.2]; exact jf_fr_rf⟩)
      unfold za_mean
      refine Eq.trans ?_ (if_pos c6).symm
      rw [nI_clamp (n := w) (by omega)]
    · refine jt_go jm_m115 11 2 (f' := (25, [(0, .inr (.inr (0, 0, 0))), (1, .inl (nI w))], [.inr (.inl ((nI w).toInt64))], h)) (P := True) rfl trivial ?_
      refine jt_tl (show ((nI w).toInt64) = lN w from nI_l (by omega)) ?_
      refine jt_lret jm_m115 13 rfl ?_
      refine ⟨jl_rt ?_, jf_fr_rf⟩
      unfold za_mean
      refine Eq.trans ?_ (if_pos c6).symm
      rw [nI_clamp (n := w) (by omega)]
      unfold zb_mean sp_frac
      have e : g 0 = 0 := by omega
      rw [e]
      rfl
  · refine jt_go jm_m115 5 1 (f' := (12, [(0, .inr (.inr (0, 0, 0))), (1, .inl (x))], [.inr (.inl (lN 1000000001))], h)) (P := True) rfl trivial ?_
    refine jt_lret jm_m115 6 rfl ?_
    exact ⟨jl_rt (if_neg (fun z => c6 z)).symm, jf_fr_rf⟩
set_option maxHeartbeats 4000000 in
set_option maxRecDepth 20000 in
theorem cb_mean {h : jm_M} {g : Nat → Nat} (R : jg_rel h 0 g) (W : jw g) {x : Int32} : jt_T 218 (0, [(0, .inr (.inr (4, 0, 0))), (1, .inl (x))], [], h) (fun u h' => u = some (.inr (.inl (za_mean g x))) ∧ jg_fr 1 h h') := by
  have bn := jw_n W
  have bm := jw_m W
  have bt := jw_t W
  refine jt_go jm_m218 0 3 (f' := (3, [(0, .inr (.inr (4, 0, 0))), (1, .inl (x))], [.inl (nI 1), .inl (nI 0), .inl (x)], h)) (P := True) rfl trivial ?_
  refine jt_callp (w := .inl (jm_b (nI 0 ≤ x ∧ x ≤ nI 1))) jm_m218 3 (mi' := 143) (as := [.inl (x), .inl (nI 0), .inl (nI 1)]) (rest := []) (nxt := 6) rfl rfl jm_m143 rfl rfl (tb_isIn) ?_
  refine jt_ifbne jm_m218 4 (tgt := 13) (nxt := 9) rfl rfl rfl (fun c6 => ?_) (fun c6 => ?_)
  · obtain ⟨w, hbw, rfl⟩ := jx_win (by decide) c6
    refine jt_go jm_m218 7 4 (f' := (18, [(4, .inl (nI 0)), (2, .inr (.inl (lN 0))), (0, .inr (.inr (4, 0, 0))), (1, .inl (nI w))], [], h)) (P := True) rfl trivial ?_
    refine jt_pick (L' := [(0, .inr (.inr (4, 0, 0))), (1, .inl (nI w)), (2, .inr (.inl (lN 0))), (4, .inl (nI 0))]) [2, 3, 1, 0] rfl ?_
    refine jt_mono (cb_mean_l R W hbw 0 (Nat.zero_le _)) (fun u h2 zz => ⟨zz.1.trans (jl_rt ?_), by rw [zz.2]; exact jg_fr_rf⟩)
    unfold za_mean
    refine Eq.trans ?_ (if_pos c6).symm
    rw [nI_clamp (n := w) (by omega)]
  · refine jt_go jm_m218 5 1 (f' := (12, [(0, .inr (.inr (4, 0, 0))), (1, .inl (x))], [.inr (.inl (lN 1000000001))], h)) (P := True) rfl trivial ?_
    refine jt_lret jm_m218 6 rfl ?_
    exact ⟨jl_rt (if_neg (fun z => c6 z)).symm, jg_fr_rf⟩
/-- hours with dogs by the bits of S -/
def sp_dg (g : Nat → Nat) (S : Nat) : Nat → Nat → Nat
  | 0 => g
  | k + 1 => if S / 2 ^ k % 2 = 1 then sp_hour (sp_dg g S k) true else sp_hour (sp_dg g S k) false
theorem jw_dg {g : Nat → Nat} (W : jw g) (S : Nat) : ∀ k, jw (sp_dg g S k) ∧ sp_dg g S k 0 = g 0 := by
  intro k
  induction k with
  | zero => exact ⟨W, rfl⟩
  | succ k ih =>
    unfold sp_dg
    split
    · exact ⟨jw_hour ih.1, (sp_hour_0 ih.1).trans ih.2⟩
    · exact ⟨jw_hour ih.1, (sp_hour_0 ih.1).trans ih.2⟩
def sp_wt (S u : Nat) : Nat → Nat
  | 0 => 1
  | k + 1 => sp_wt S u k * (if S / 2 ^ k % 2 = 1 then 1 else u)
def sp_cn (S : Nat) : Nat → Nat := sp_sum (fun k => S / 2 ^ k % 2)
theorem sp_cn_le (S : Nat) : ∀ k, sp_cn S k ≤ k := by
  intro k
  induction k with
  | zero => exact Nat.le_refl _
  | succ k ih =>
    show sp_cn S k + S / 2 ^ k % 2 ≤ k + 1
    have := Nat.mod_lt (S / 2 ^ k) (show 0 < 2 by decide)
    omega
theorem sp_wt_pow (S u : Nat) : ∀ k, sp_wt S u k = u ^ (k - sp_cn S k) := by
  intro k
  induction k with
  | zero => rfl
  | succ k ih =>
    have h1 := sp_cn_le S k
    show sp_wt S u k * _ = _
    have e : sp_cn S (k + 1) = sp_cn S k + S / 2 ^ k % 2 := rfl
    rw [ih, e]
    split
    · rename_i q; rw [q, Nat.mul_one]; congr 1; omega
    · rename_i q
      have q0 : S / 2 ^ k % 2 = 0 := by omega
      rw [q0, show k + 1 - (sp_cn S k + 0) = (k - sp_cn S k) + 1 by omega, Nat.pow_succ]
set_option maxRecDepth 100000 in
theorem sp_cn_cnt : ∀ n, n < 8 → ∀ S, S < 2 ^ n → sp_cn S n = sp_cnt S := by decide +kernel
set_option maxRecDepth 100000 in
theorem jx_shl : ∀ n, n < 16 → nI 1 <<< (nI n &&& 31) = nI (2 ^ n) := by decide +kernel
theorem sp_p7 {n : Nat} (h : n ≤ 7) : 2 ^ n ≤ 128 := Nat.pow_le_pow_right (n := 2) (by decide) h
theorem sp_pw_lt {u n : Nat} (hu : u ≤ 20) (hn : n ≤ 7) : u ^ n ≤ 1280000000 := by
  have h1 : u ^ n ≤ 20 ^ n := Nat.pow_le_pow_left hu n
  have h2 : 20 ^ n ≤ 20 ^ 7 := Nat.pow_le_pow_right (n := 20) (by decide) hn
  have h3 : (20 : Nat) ^ 7 = 1280000000 := by decide
  omega
def sp_ds (g : Nat → Nat) (c d n t : Nat) : Nat → Nat := sp_sum (fun S => if sp_sd (sp_dg g S n (38 + 5 * c)) = d then sp_wt S (t - 1) n else 0)
theorem sp_wt_lt {S t n : Nat} (ht : t ≤ 20) (hn : n ≤ 7) : sp_wt S (t - 1) n ≤ 1280000000 := by
  rw [sp_wt_pow]
  exact sp_pw_lt (by omega) (by have := sp_cn_le S n; omega)
theorem sp_ds_le (g : Nat → Nat) (c d n t k : Nat) (ht : t ≤ 20) (hn : n ≤ 7) (hk : k ≤ 128) : sp_ds g c d n t k ≤ 163840000000 := by
  have h1 : sp_ds g c d n t k ≤ 1280000000 * k := by
    refine sp_sum_le k (fun i _ => ?_)
    split
    · exact sp_wt_lt ht hn
    · omega
  have h2 : 1280000000 * k ≤ 1280000000 * 128 := Nat.mul_le_mul_left _ hk
  omega
set_option maxHeartbeats 4000000 in
set_option maxRecDepth 20000 in
theorem ca_power_l {h : jm_M} {u n : Nat} (hu : u ≤ 20) (hn : n ≤ 7) : ∀ k, k ≤ n → jt_T 114 (5, [(0, .inl (nI u)), (1, .inl (nI n)), (2, .inr (.inl (lN (u ^ k)))), (4, .inl (nI k))], [], h) (fun w h' => w = some (.inr (.inl (lN (u ^ n)))) ∧ h' = h) := jx_up (fun k hk nx => by
  refine jt_go jm_m114 4 2 (f' := (8, [(0, .inl (nI u)), (1, .inl (nI n)), (2, .inr (.inl (lN (u ^ k)))), (4, .inl (nI k))], [.inl (nI n), .inl (nI k)], h)) (P := True) rfl trivial ?_
  refine jt_nicge jm_m114 6 (a := k) (b := n) (by omega) (by omega) (tgt := 22) (nxt := 11) rfl rfl rfl (fun c8 => ?_) (fun c8 => ?_)
  · refine jt_go jm_m114 14 1 (f' := (23, [(0, .inl (nI u)), (1, .inl (nI n)), (2, .inr (.inl (lN (u ^ k)))), (4, .inl (nI k))], [.inr (.inl (lN (u ^ k)))], h)) (P := True) rfl trivial ?_
    refine jt_lret jm_m114 15 rfl ?_
    have e : k = n := by omega
    subst e
    exact ⟨rfl, rfl⟩
  · refine jt_go jm_m114 7 3 (f' := (14, [(0, .inl (nI u)), (1, .inl (nI n)), (2, .inr (.inl (lN (u ^ k)))), (4, .inl (nI k))], [.inr (.inl ((nI u).toInt64)), .inr (.inl (lN (u ^ k)))], h)) (P := True) rfl trivial ?_
    refine jt_tl (show ((nI u).toInt64) = lN u from nI_l (by omega)) ?_
    refine jt_go jm_m114 10 1 (f' := (15, [(0, .inl (nI u)), (1, .inl (nI n)), (2, .inr (.inl (lN (u ^ k)))), (4, .inl (nI k))], [.inr (.inl ((lN (u ^ k)) * (lN u)))], h)) (P := True) rfl trivial ?_
    refine jt_tl (show ((lN (u ^ k)) * (lN u)) = lN ((u ^ k) * u) from lN_mul _ _) ?_
    refine jt_go jm_m114 11 1 (f' := (16, [(2, .inr (.inl (lN ((u ^ k) * u)))), (0, .inl (nI u)), (1, .inl (nI n)), (4, .inl (nI k))], [], h)) (P := True) rfl trivial ?_
    refine jt_inc jm_m114 12 (c := k) (L' := [(4, .inl (nI (k + 1))), (2, .inr (.inl (lN ((u ^ k) * u)))), (0, .inl (nI u)), (1, .inl (nI n))]) rfl rfl rfl rfl ?_
    refine jt_go jm_m114 13 1 (f' := (5, [(4, .inl (nI (k + 1))), (2, .inr (.inl (lN ((u ^ k) * u)))), (0, .inl (nI u)), (1, .inl (nI n))], [], h)) (P := True) rfl trivial ?_
    refine jt_pick (L' := [(0, .inl (nI u)), (1, .inl (nI n)), (2, .inr (.inl (lN ((u ^ k) * u)))), (4, .inl (nI (k + 1)))]) [2, 3, 1, 0] rfl ?_
    have q := nx (by omega)
    rw [Nat.pow_succ] at q
    exact q)
set_option maxHeartbeats 4000000 in
set_option maxRecDepth 20000 in
theorem ca_power {h : jm_M} {u n : Nat} (hu : u ≤ 20) (hn : n ≤ 7) : jt_Pu 114 [.inl (nI u), .inl (nI n)] h (.inr (.inl (lN (u ^ n)))) := by
  show jt_T 114 (0, [(0, .inl (nI u)), (1, .inl (nI n))], [], h) _
  refine jt_go jm_m114 0 4 (f' := (5, [(4, .inl (nI 0)), (2, .inr (.inl (lN 1))), (0, .inl (nI u)), (1, .inl (nI n))], [], h)) (P := True) rfl trivial ?_
  refine jt_pick (L' := [(0, .inl (nI u)), (1, .inl (nI n)), (2, .inr (.inl (lN 1))), (4, .inl (nI 0))]) [2, 3, 1, 0] rfl ?_
  exact ca_power_l hu hn 0 (Nat.zero_le _)
set_option maxHeartbeats 4000000 in
set_option maxRecDepth 20000 in
theorem ca_dogh_l {h : jm_M} {g : Nat → Nat} (W : jw g) {S n : Nat} (hS : S < 128) (hnn : n ≤ 7) : ∀ k, k ≤ n → ∀ hm : jm_M, (jf_rel hm 1 (sp_dg g S k)) → (jf_fr 1 h hm) → jt_T 113 (2, [(0, .inr (.inr (0, 0, 0))), (1, .inl (nI S)), (2, .inl (nI n)), (3, .inl (nI k))], [], hm) (fun u h' => u = none ∧ jf_rel h' 1 (sp_dg g S n) ∧ jf_fr 1 h h') := jx_up (P := fun k => ∀ hm : jm_M, (jf_rel hm 1 (sp_dg g S k)) → (jf_fr 1 h hm) → jt_T 113 (2, [(0, .inr (.inr (0, 0, 0))), (1, .inl (nI S)), (2, .inl (nI n)), (3, .inl (nI k))], [], hm) (fun u h' => u = none ∧ jf_rel h' 1 (sp_dg g S n) ∧ jf_fr 1 h h')) (fun k hk nx hm Rm Fm => by
  have Wk := (jw_dg W S k).1
  refine jt_go jm_m113 2 2 (f' := (4, [(0, .inr (.inr (0, 0, 0))), (1, .inl (nI S)), (2, .inl (nI n)), (3, .inl (nI k))], [.inl (nI n), .inl (nI k)], hm)) (P := True) rfl trivial ?_
  refine jt_nicge jm_m113 4 (a := k) (b := n) (by omega) (by omega) (tgt := 39) (nxt := 7) rfl rfl rfl (fun c4 => ?_) (fun c4 => ?_)
  · refine jt_vret jm_m113 21 rfl ?_
    have e : k = n := by omega
    subst e
    exact ⟨rfl, Rm, Fm⟩
  · refine jt_go jm_m113 5 5 (f' := (12, [(0, .inr (.inr (0, 0, 0))), (1, .inl (nI S)), (2, .inl (nI n)), (3, .inl (nI k))], [.inl (((nI S) >>> ((nI k) &&& 31)) &&& (nI 1))], hm)) (P := True) rfl trivial ?_
    refine jt_ti (show (((nI S) >>> ((nI k) &&& 31)) &&& (nI 1)) = nI (S / 2 ^ k % 2) from jx_bit7 _ hS _ (by omega)) ?_
    refine jt_go jm_m113 10 1 (f' := (13, [(0, .inr (.inr (0, 0, 0))), (1, .inl (nI S)), (2, .inl (nI n)), (3, .inl (nI k))], [.inl (nI 1), .inl (nI (S / 2 ^ k % 2))], hm)) (P := True) rfl trivial ?_
    refine jt_nicne jm_m113 11 (a := S / 2 ^ k % 2) (b := 1) (by omega) (by omega) (tgt := 26) (nxt := 16) rfl rfl rfl (fun c13 => ?_) (fun c13 => ?_)
    · refine jt_go jm_m113 16 2 (f' := (30, [(0, .inr (.inr (0, 0, 0))), (1, .inl (nI S)), (2, .inl (nI n)), (3, .inl (nI k))], [.inr (.inr (2, 1, 0))], hm)) (P := True) rfl trivial ?_
      refine jt_call jm_m113 18 (mi' := 18) (as := [.inr (.inr (2, 1, 0))]) (rest := []) (nxt := 33) rfl rfl jm_m18 rfl rfl (ta_hour Rm Wk) ?_
      rintro u h1 ⟨rfl, Rh1, Gh1, Ch1⟩
      show jt_T 113 (33, [(0, .inr (.inr (0, 0, 0))), (1, .inl (nI S)), (2, .inl (nI n)), (3, .inl (nI k))], [], h1) _
      have Fh1 := jf_fr_tr Fm Gh1
      refine jt_inc jm_m113 19 (c := k) (L' := [(3, .inl (nI (k + 1))), (0, .inr (.inr (0, 0, 0))), (1, .inl (nI S)), (2, .inl (nI n))]) rfl rfl rfl rfl ?_
      refine jt_go jm_m113 20 1 (f' := (2, [(3, .inl (nI (k + 1))), (0, .inr (.inr (0, 0, 0))), (1, .inl (nI S)), (2, .inl (nI n))], [], h1)) (P := True) rfl trivial ?_
      refine jt_pick (L' := [(0, .inr (.inr (0, 0, 0))), (1, .inl (nI S)), (2, .inl (nI n)), (3, .inl (nI (k + 1)))]) [1, 2, 3, 0] rfl ?_
      have e : sp_dg g S (k + 1) = sp_hour (sp_dg g S k) false := if_neg c13
      exact nx (by omega) h1 (by rw [e]; exact Rh1) Fh1
    · refine jt_go jm_m113 12 2 (f' := (20, [(0, .inr (.inr (0, 0, 0))), (1, .inl (nI S)), (2, .inl (nI n)), (3, .inl (nI k))], [.inr (.inr (2, 1, 0))], hm)) (P := True) rfl trivial ?_
      refine jt_call jm_m113 14 (mi' := 19) (as := [.inr (.inr (2, 1, 0))]) (rest := []) (nxt := 23) rfl rfl jm_m19 rfl rfl (ta_hourk Rm Wk) ?_
      rintro u h1 ⟨rfl, Rh1, Gh1, Ch1⟩
      show jt_T 113 (23, [(0, .inr (.inr (0, 0, 0))), (1, .inl (nI S)), (2, .inl (nI n)), (3, .inl (nI k))], [], h1) _
      have Fh1 := jf_fr_tr Fm Gh1
      refine jt_go jm_m113 15 1 (f' := (33, [(0, .inr (.inr (0, 0, 0))), (1, .inl (nI S)), (2, .inl (nI n)), (3, .inl (nI k))], [], h1)) (P := True) rfl trivial ?_
      refine jt_inc jm_m113 19 (c := k) (L' := [(3, .inl (nI (k + 1))), (0, .inr (.inr (0, 0, 0))), (1, .inl (nI S)), (2, .inl (nI n))]) rfl rfl rfl rfl ?_
      refine jt_go jm_m113 20 1 (f' := (2, [(3, .inl (nI (k + 1))), (0, .inr (.inr (0, 0, 0))), (1, .inl (nI S)), (2, .inl (nI n))], [], h1)) (P := True) rfl trivial ?_
      refine jt_pick (L' := [(0, .inr (.inr (0, 0, 0))), (1, .inl (nI S)), (2, .inl (nI n)), (3, .inl (nI (k + 1)))]) [1, 2, 3, 0] rfl ?_
      have e : sp_dg g S (k + 1) = sp_hour (sp_dg g S k) true := if_pos c13
      exact nx (by omega) h1 (by rw [e]; exact Rh1) Fh1)
set_option maxHeartbeats 4000000 in
set_option maxRecDepth 20000 in
theorem ca_dogh {h : jm_M} {g : Nat → Nat} (R : jf_rel h 1 g) (W : jw g) {S n : Nat} (hS : S < 128) (hnn : n ≤ 7) : jt_T 113 (0, [(0, .inr (.inr (0, 0, 0))), (1, .inl (nI S)), (2, .inl (nI n))], [], h) (fun u h' => u = none ∧ jf_rel h' 1 (sp_dg g S n) ∧ jf_fr 1 h h') := by
  refine jt_go jm_m113 0 2 (f' := (2, [(3, .inl (nI 0)), (0, .inr (.inr (0, 0, 0))), (1, .inl (nI S)), (2, .inl (nI n))], [], h)) (P := True) rfl trivial ?_
  refine jt_pick (L' := [(0, .inr (.inr (0, 0, 0))), (1, .inl (nI S)), (2, .inl (nI n)), (3, .inl (nI 0))]) [1, 2, 3, 0] rfl ?_
  exact ca_dogh_l W hS hnn 0 (Nat.zero_le _) _ R jf_fr_rf
def zb_dogs (g : Nat → Nat) (c d n t w : Nat) : Int64 := lN (sp_frac (sp_ds g c d n t (2 ^ n)) (t ^ n) w)
def za_dogs (g : Nat → Nat) (x y z v q : Int32) : Int64 := if (nI 0 ≤ x ∧ x < nI (g 0)) ∧ (nI 0 ≤ y ∧ y ≤ nI 1) ∧ (nI 0 ≤ z ∧ z ≤ nI 7) ∧ (nI 2 ≤ v ∧ v ≤ nI 20) ∧ (nI 0 ≤ q ∧ q ≤ nI 1) then zb_dogs g x.toNatClampNeg y.toNatClampNeg z.toNatClampNeg v.toNatClampNeg q.toNatClampNeg else lN 1000000001
set_option maxHeartbeats 4000000 in
set_option maxRecDepth 20000 in
theorem ca_dogs_l {h : jm_M} {g : Nat → Nat} (W : jw g) {c d n t w : Nat} (hc : c < g 0) (hd : d ≤ 1) (hnn : n ≤ 7) (ht : t ≤ 20) (ht2 : 2 ≤ t) (hw : w ≤ 1) : ∀ S, S ≤ 2 ^ n → ∀ hm : jm_M, (jf_rel hm 0 g) → (jf_fr 1 h hm) → jt_T 112 (59, [(0, .inr (.inr (0, 0, 0))), (1, .inl (nI c)), (2, .inl (nI d)), (3, .inl (nI n)), (4, .inl (nI t)), (5, .inl (nI w)), (6, .inr (.inl (lN (sp_ds g c d n t S)))), (8, .inl (nI S))], [], hm) (fun u h' => u = some (.inr (.inl (zb_dogs g c d n t w))) ∧ jf_fr 1 h h') := jx_up (P := fun S => ∀ hm : jm_M, (jf_rel hm 0 g) → (jf_fr 1 h hm) → jt_T 112 (59, [(0, .inr (.inr (0, 0, 0))), (1, .inl (nI c)), (2, .inl (nI d)), (3, .inl (nI n)), (4, .inl (nI t)), (5, .inl (nI w)), (6, .inr (.inl (lN (sp_ds g c d n t S)))), (8, .inl (nI S))], [], hm) (fun u h' => u = some (.inr (.inl (zb_dogs g c d n t w))) ∧ jf_fr 1 h h')) (fun S hk nx hm Zm Fm => by
  have bn := jw_n W
  have bm := jw_m W
  have bt := jw_t W
  have p1 := sp_p7 hnn
  have p2 := sp_ds_le g c d n t S ht hnn (by omega)
  have p3 : 0 < 2 ^ n := Nat.two_pow_pos n
  have p4 := sp_pw_lt ht hnn
  have p5 : 0 < t ^ n := Nat.pow_pos (by omega)
  refine jt_go jm_m112 29 4 (f' := (64, [(0, .inr (.inr (0, 0, 0))), (1, .inl (nI c)), (2, .inl (nI d)), (3, .inl (nI n)), (4, .inl (nI t)), (5, .inl (nI w)), (6, .inr (.inl (lN (sp_ds g c d n t S)))), (8, .inl (nI S))], [.inl ((nI 1) <<< ((nI n) &&& 31)), .inl (nI S)], hm)) (P := True) rfl trivial ?_
  refine jt_ti (show ((nI 1) <<< ((nI n) &&& 31)) = nI (2 ^ n) from jx_shl _ (by omega)) ?_
  refine jt_nicge jm_m112 33 (a := S) (b := 2 ^ n) (by omega) (by omega) (tgt := 126) (nxt := 67) rfl rfl rfl (fun c64 => ?_) (fun c64 => ?_)
  · refine jt_go jm_m112 64 3 (f' := (131, [(0, .inr (.inr (0, 0, 0))), (1, .inl (nI c)), (2, .inl (nI d)), (3, .inl (nI n)), (4, .inl (nI t)), (5, .inl (nI w)), (6, .inr (.inl (lN (sp_ds g c d n t S)))), (8, .inl (nI S))], [.inl (nI n), .inl (nI t), .inr (.inl (lN (sp_ds g c d n t S)))], hm)) (P := True) rfl trivial ?_
    refine jt_callp (w := .inr (.inl (lN (t ^ n)))) jm_m112 67 (mi' := 114) (as := [.inl (nI t), .inl (nI n)]) (rest := [.inr (.inl (lN (sp_ds g c d n t S)))]) (nxt := 134) rfl rfl jm_m114 rfl rfl (ca_power (by omega) (by omega)) ?_
    have bq1 := sp_pw_lt (u := t) (n := n) (by omega) (by omega)
    refine jt_go jm_m112 68 1 (f' := (136, [(0, .inr (.inr (0, 0, 0))), (1, .inl (nI c)), (2, .inl (nI d)), (3, .inl (nI n)), (4, .inl (nI t)), (5, .inl (nI w)), (6, .inr (.inl (lN (sp_ds g c d n t S)))), (8, .inl (nI S))], [.inl (nI w), .inr (.inl (lN (t ^ n))), .inr (.inl (lN (sp_ds g c d n t S)))], hm)) (P := True) rfl trivial ?_
    refine jt_callp (w := .inr (.inl (lN (sp_frac (sp_ds g c d n t S) (t ^ n) w)))) jm_m112 69 (mi' := 116) (as := [.inr (.inl (lN (sp_ds g c d n t S))), .inr (.inl (lN (t ^ n))), .inl (nI w)]) (rest := []) (nxt := 139) rfl rfl jm_m116 rfl rfl (ca_frac (by omega) (by omega) (by omega) (by omega)) ?_
    refine jt_lret jm_m112 70 rfl ?_
    have e : S = 2 ^ n := by omega
    subst e
    exact ⟨rfl, Fm⟩
  · refine jt_go jm_m112 34 4 (f' := (75, [(0, .inr (.inr (0, 0, 0))), (1, .inl (nI c)), (2, .inl (nI d)), (3, .inl (nI n)), (4, .inl (nI t)), (5, .inl (nI w)), (6, .inr (.inl (lN (sp_ds g c d n t S)))), (8, .inl (nI S))], [.inr (.inr (2, 0, 0)), .inr (.inr (2, 1, 0))], hm)) (P := True) rfl trivial ?_
    refine jt_call jm_m112 38 (mi' := 6) (as := [.inr (.inr (2, 1, 0)), .inr (.inr (2, 0, 0))]) (rest := []) (nxt := 78) rfl rfl jm_m6 rfl rfl (ta_becomes Zm W (by decide)) ?_
    rintro u h1 ⟨rfl, Rh1, Fh1⟩
    show jt_T 112 (78, [(0, .inr (.inr (0, 0, 0))), (1, .inl (nI c)), (2, .inl (nI d)), (3, .inl (nI n)), (4, .inl (nI t)), (5, .inl (nI w)), (6, .inr (.inl (lN (sp_ds g c d n t S)))), (8, .inl (nI S))], [], h1) _
    have Rh1 : jf_rel h1 1 g := Rh1
    have Wh1 : jw (g) := W
    have Zh1 := jf_mov0 Zm Fh1
    have Fh1 := jf_fr_tr Fm Fh1
    refine jt_go jm_m112 39 3 (f' := (82, [(0, .inr (.inr (0, 0, 0))), (1, .inl (nI c)), (2, .inl (nI d)), (3, .inl (nI n)), (4, .inl (nI t)), (5, .inl (nI w)), (6, .inr (.inl (lN (sp_ds g c d n t S)))), (8, .inl (nI S))], [.inl (nI n), .inl (nI S), .inr (.inr (0, 0, 0))], h1)) (P := True) rfl trivial ?_
    refine jt_call jm_m112 42 (mi' := 113) (as := [.inr (.inr (0, 0, 0)), .inl (nI S), .inl (nI n)]) (rest := []) (nxt := 85) rfl rfl jm_m113 rfl rfl (ca_dogh Rh1 Wh1 (by omega) hnn) ?_
    rintro u h2 ⟨rfl, Rh2, Fh2⟩
    show jt_T 112 (85, [(0, .inr (.inr (0, 0, 0))), (1, .inl (nI c)), (2, .inl (nI d)), (3, .inl (nI n)), (4, .inl (nI t)), (5, .inl (nI w)), (6, .inr (.inl (lN (sp_ds g c d n t S)))), (8, .inl (nI S))], [], h2) _
    have Rh2 : jf_rel h2 1 (sp_dg g S n) := Rh2
    have Wh2 : jw (sp_dg g S n) := (jw_dg Wh1 _ _).1
    have Zh2 := jf_mov0 Zh1 Fh2
    have Fh2 := jf_fr_tr Fh1 Fh2
    refine jt_go jm_m112 43 5 (f' := (94, [(0, .inr (.inr (0, 0, 0))), (1, .inl (nI c)), (2, .inl (nI d)), (3, .inl (nI n)), (4, .inl (nI t)), (5, .inl (nI w)), (6, .inr (.inl (lN (sp_ds g c d n t S)))), (8, .inl (nI S))], [.inl (h2 (2, 1, 3) (nI c).toNatClampNeg)], h2)) (P := vp_in (nI c) 6 ∧ True) rfl ⟨(vp_in_nI (by omega) (by decide)), trivial⟩ ?_
    refine jt_ti (show (h2 (2, 1, 3) (nI c).toNatClampNeg) = nI ((sp_dg g S n) (38 + 5 * c)) from jf_at Rh2 (c := c) (nI_clamp (by omega)) (by omega)) ?_
    have bq2 := jw_at Wh2 (c := c) (by omega)
    refine jt_callp (w := .inl (nI (sp_sd ((sp_dg g S n) (38 + 5 * c))))) jm_m112 48 (mi' := 142) (as := [.inl (nI ((sp_dg g S n) (38 + 5 * c)))]) (rest := []) (nxt := 97) rfl rfl jm_m142 rfl rfl (ta_sideOf (by omega)) ?_
    have bq3 := sp_sd_le ((sp_dg g S n) (38 + 5 * c))
    refine jt_go jm_m112 49 1 (f' := (98, [(0, .inr (.inr (0, 0, 0))), (1, .inl (nI c)), (2, .inl (nI d)), (3, .inl (nI n)), (4, .inl (nI t)), (5, .inl (nI w)), (6, .inr (.inl (lN (sp_ds g c d n t S)))), (8, .inl (nI S))], [.inl (nI d), .inl (nI (sp_sd ((sp_dg g S n) (38 + 5 * c))))], h2)) (P := True) rfl trivial ?_
    refine jt_nicne jm_m112 50 (a := sp_sd ((sp_dg g S n) (38 + 5 * c))) (b := d) (by omega) (by omega) (tgt := 120) (nxt := 101) rfl rfl rfl (fun c98 => ?_) (fun c98 => ?_)
    · refine jt_inc jm_m112 62 (c := S) (L' := [(8, .inl (nI (S + 1))), (0, .inr (.inr (0, 0, 0))), (1, .inl (nI c)), (2, .inl (nI d)), (3, .inl (nI n)), (4, .inl (nI t)), (5, .inl (nI w)), (6, .inr (.inl (lN (sp_ds g c d n t S))))]) rfl rfl rfl rfl ?_
      refine jt_go jm_m112 63 1 (f' := (59, [(8, .inl (nI (S + 1))), (0, .inr (.inr (0, 0, 0))), (1, .inl (nI c)), (2, .inl (nI d)), (3, .inl (nI n)), (4, .inl (nI t)), (5, .inl (nI w)), (6, .inr (.inl (lN (sp_ds g c d n t S))))], [], h2)) (P := True) rfl trivial ?_
      refine jt_pick (L' := [(0, .inr (.inr (0, 0, 0))), (1, .inl (nI c)), (2, .inl (nI d)), (3, .inl (nI n)), (4, .inl (nI t)), (5, .inl (nI w)), (6, .inr (.inl (lN (sp_ds g c d n t S)))), (8, .inl (nI (S + 1)))]) [1, 2, 3, 4, 5, 6, 7, 0] rfl ?_
      have e : sp_ds g c d n t (S + 1) = sp_ds g c d n t S := by show sp_ds g c d n t S + (if _ then _ else _) = _; rw [if_neg c98, Nat.add_zero]
      have q := nx (by omega) h2 Zh2 Fh2
      rw [e] at q
      exact q
    · refine jt_go jm_m112 51 4 (f' := (107, [(0, .inr (.inr (0, 0, 0))), (1, .inl (nI c)), (2, .inl (nI d)), (3, .inl (nI n)), (4, .inl (nI t)), (5, .inl (nI w)), (6, .inr (.inl (lN (sp_ds g c d n t S)))), (8, .inl (nI S))], [.inl ((nI t) - (nI 1)), .inr (.inl (lN (sp_ds g c d n t S)))], h2)) (P := True) rfl trivial ?_
      refine jt_ti (show ((nI t) - (nI 1)) = nI (t - 1) from nI_subN (by omega)) ?_
      refine jt_go jm_m112 55 2 (f' := (110, [(0, .inr (.inr (0, 0, 0))), (1, .inl (nI c)), (2, .inl (nI d)), (3, .inl (nI n)), (4, .inl (nI t)), (5, .inl (nI w)), (6, .inr (.inl (lN (sp_ds g c d n t S)))), (8, .inl (nI S))], [.inl (nI S), .inl (nI n), .inl (nI (t - 1)), .inr (.inl (lN (sp_ds g c d n t S)))], h2)) (P := True) rfl trivial ?_
      refine jt_callp (w := .inl (nI (sp_cnt S))) jm_m112 57 (mi' := 238) (as := [.inl (nI S)]) (rest := [.inl (nI n), .inl (nI (t - 1)), .inr (.inl (lN (sp_ds g c d n t S)))]) (nxt := 113) rfl rfl jm_m238 rfl rfl (tj_bits (by omega)) ?_
      have bq4 := sp_cnt_le S (by omega)
      refine jt_go jm_m112 58 1 (f' := (114, [(0, .inr (.inr (0, 0, 0))), (1, .inl (nI c)), (2, .inl (nI d)), (3, .inl (nI n)), (4, .inl (nI t)), (5, .inl (nI w)), (6, .inr (.inl (lN (sp_ds g c d n t S)))), (8, .inl (nI S))], [.inl ((nI n) - (nI (sp_cnt S))), .inl (nI (t - 1)), .inr (.inl (lN (sp_ds g c d n t S)))], h2)) (P := True) rfl trivial ?_
      refine jt_ti (show ((nI n) - (nI (sp_cnt S))) = nI (n - sp_cnt S) from nI_subN (by rw [← sp_cn_cnt n (by omega) S (by omega)]; exact sp_cn_le S n)) ?_
      refine jt_callp (w := .inr (.inl (lN ((t - 1) ^ (n - sp_cnt S))))) jm_m112 59 (mi' := 114) (as := [.inl (nI (t - 1)), .inl (nI (n - sp_cnt S))]) (rest := [.inr (.inl (lN (sp_ds g c d n t S)))]) (nxt := 117) rfl rfl jm_m114 rfl rfl (ca_power (by omega) (by omega)) ?_
      have bq5 := sp_pw_lt (u := t - 1) (n := n - sp_cnt S) (by omega) (by omega)
      refine jt_go jm_m112 60 1 (f' := (118, [(0, .inr (.inr (0, 0, 0))), (1, .inl (nI c)), (2, .inl (nI d)), (3, .inl (nI n)), (4, .inl (nI t)), (5, .inl (nI w)), (6, .inr (.inl (lN (sp_ds g c d n t S)))), (8, .inl (nI S))], [.inr (.inl ((lN (sp_ds g c d n t S)) + (lN ((t - 1) ^ (n - sp_cnt S)))))], h2)) (P := True) rfl trivial ?_
      refine jt_tl (show ((lN (sp_ds g c d n t S)) + (lN ((t - 1) ^ (n - sp_cnt S)))) = lN (sp_ds g c d n t S + ((t - 1) ^ (n - sp_cnt S))) from lN_add _ _) ?_
      refine jt_go jm_m112 61 1 (f' := (120, [(6, .inr (.inl (lN (sp_ds g c d n t S + ((t - 1) ^ (n - sp_cnt S)))))), (0, .inr (.inr (0, 0, 0))), (1, .inl (nI c)), (2, .inl (nI d)), (3, .inl (nI n)), (4, .inl (nI t)), (5, .inl (nI w)), (8, .inl (nI S))], [], h2)) (P := True) rfl trivial ?_
      refine jt_inc jm_m112 62 (c := S) (L' := [(8, .inl (nI (S + 1))), (6, .inr (.inl (lN (sp_ds g c d n t S + ((t - 1) ^ (n - sp_cnt S)))))), (0, .inr (.inr (0, 0, 0))), (1, .inl (nI c)), (2, .inl (nI d)), (3, .inl (nI n)), (4, .inl (nI t)), (5, .inl (nI w))]) rfl rfl rfl rfl ?_
      refine jt_go jm_m112 63 1 (f' := (59, [(8, .inl (nI (S + 1))), (6, .inr (.inl (lN (sp_ds g c d n t S + ((t - 1) ^ (n - sp_cnt S)))))), (0, .inr (.inr (0, 0, 0))), (1, .inl (nI c)), (2, .inl (nI d)), (3, .inl (nI n)), (4, .inl (nI t)), (5, .inl (nI w))], [], h2)) (P := True) rfl trivial ?_
      refine jt_pick (L' := [(0, .inr (.inr (0, 0, 0))), (1, .inl (nI c)), (2, .inl (nI d)), (3, .inl (nI n)), (4, .inl (nI t)), (5, .inl (nI w)), (6, .inr (.inl (lN (sp_ds g c d n t S + ((t - 1) ^ (n - sp_cnt S)))))), (8, .inl (nI (S + 1)))]) [2, 3, 4, 5, 6, 7, 1, 0] rfl ?_
      have e : sp_ds g c d n t (S + 1) = sp_ds g c d n t S + ((t - 1) ^ (n - sp_cnt S)) := by show sp_ds g c d n t S + (if _ then _ else _) = _; rw [if_pos c98, sp_wt_pow, sp_cn_cnt n (by omega) S (by omega)]
      have q := nx (by omega) h2 Zh2 Fh2
      rw [e] at q
      exact q)
set_option maxHeartbeats 4000000 in
set_option maxRecDepth 20000 in
theorem ca_dogs {h : jm_M} {g : Nat → Nat} (R : jf_rel h 0 g) (W : jw g) {x y z v q : Int32} : jt_T 112 (0, [(0, .inr (.inr (0, 0, 0))), (1, .inl (x)), (2, .inl (y)), (3, .inl (z)), (4, .inl (v)), (5, .inl (q))], [], h) (fun u h' => u = some (.inr (.inl (za_dogs g x y z v q))) ∧ jf_fr 1 h h') := by
  have bn := jw_n W
  have bm := jw_m W
  have bt := jw_t W
  refine jt_go jm_m112 0 3 (f' := (5, [(0, .inr (.inr (0, 0, 0))), (1, .inl (x)), (2, .inl (y)), (3, .inl (z)), (4, .inl (v)), (5, .inl (q))], [.inl (x), .inr (.inr (2, 0, 0))], h)) (P := True) rfl trivial ?_
  refine jt_callp (w := .inl (jm_b (nI 0 ≤ x ∧ x < nI (g 0)))) jm_m112 3 (mi' := 7) (as := [.inr (.inr (2, 0, 0)), .inl (x)]) (rest := []) (nxt := 8) rfl rfl jm_m7 rfl rfl (ta_hasCat R W) ?_
  refine jt_ifbeq jm_m112 4 (tgt := 49) (nxt := 11) rfl rfl rfl (fun c8 => ?_) (fun c8 => ?_)
  · refine jt_go jm_m112 23 1 (f' := (52, [(0, .inr (.inr (0, 0, 0))), (1, .inl (x)), (2, .inl (y)), (3, .inl (z)), (4, .inl (v)), (5, .inl (q))], [.inr (.inl (lN 1000000001))], h)) (P := True) rfl trivial ?_
    refine jt_lret jm_m112 24 rfl ?_
    exact ⟨jl_rt (if_neg (fun z => c8 z.1)).symm, jf_fr_rf⟩
  · obtain ⟨c, hbc, rfl⟩ := jx_cat (by omega) c8
    refine jt_go jm_m112 5 1 (f' := (12, [(0, .inr (.inr (0, 0, 0))), (1, .inl (nI c)), (2, .inl (y)), (3, .inl (z)), (4, .inl (v)), (5, .inl (q))], [.inl (y)], h)) (P := True) rfl trivial ?_
    refine jt_callp (w := .inl (jm_b (nI 0 ≤ y ∧ y ≤ nI 1))) jm_m112 6 (mi' := 139) (as := [.inl (y)]) (rest := []) (nxt := 15) rfl rfl jm_m139 rfl rfl (ta_sidei) ?_
    refine jt_ifbeq jm_m112 7 (tgt := 49) (nxt := 18) rfl rfl rfl (fun c15 => ?_) (fun c15 => ?_)
    · refine jt_go jm_m112 23 1 (f' := (52, [(0, .inr (.inr (0, 0, 0))), (1, .inl (nI c)), (2, .inl (y)), (3, .inl (z)), (4, .inl (v)), (5, .inl (q))], [.inr (.inl (lN 1000000001))], h)) (P := True) rfl trivial ?_
      refine jt_lret jm_m112 24 rfl ?_
      exact ⟨jl_rt (if_neg (fun z => c15 z.2.1)).symm, jf_fr_rf⟩
    · obtain ⟨d, hbd, rfl⟩ := jx_win (by decide) c15
      refine jt_go jm_m112 8 3 (f' := (22, [(0, .inr (.inr (0, 0, 0))), (1, .inl (nI c)), (2, .inl (nI d)), (3, .inl (z)), (4, .inl (v)), (5, .inl (q))], [.inl (nI 7), .inl (nI 0), .inl (z)], h)) (P := True) rfl trivial ?_
      refine jt_callp (w := .inl (jm_b (nI 0 ≤ z ∧ z ≤ nI 7))) jm_m112 11 (mi' := 136) (as := [.inl (z), .inl (nI 0), .inl (nI 7)]) (rest := []) (nxt := 25) rfl rfl jm_m136 rfl rfl (ta_within) ?_
      refine jt_ifbeq jm_m112 12 (tgt := 49) (nxt := 28) rfl rfl rfl (fun c25 => ?_) (fun c25 => ?_)
      · refine jt_go jm_m112 23 1 (f' := (52, [(0, .inr (.inr (0, 0, 0))), (1, .inl (nI c)), (2, .inl (nI d)), (3, .inl (z)), (4, .inl (v)), (5, .inl (q))], [.inr (.inl (lN 1000000001))], h)) (P := True) rfl trivial ?_
        refine jt_lret jm_m112 24 rfl ?_
        exact ⟨jl_rt (if_neg (fun z => c25 z.2.2.1)).symm, jf_fr_rf⟩
      · obtain ⟨n, hbn, rfl⟩ := jx_win (by decide) c25
        refine jt_go jm_m112 13 3 (f' := (33, [(0, .inr (.inr (0, 0, 0))), (1, .inl (nI c)), (2, .inl (nI d)), (3, .inl (nI n)), (4, .inl (v)), (5, .inl (q))], [.inl (nI 20), .inl (nI 2), .inl (v)], h)) (P := True) rfl trivial ?_
        refine jt_callp (w := .inl (jm_b (nI 2 ≤ v ∧ v ≤ nI 20))) jm_m112 16 (mi' := 136) (as := [.inl (v), .inl (nI 2), .inl (nI 20)]) (rest := []) (nxt := 36) rfl rfl jm_m136 rfl rfl (ta_within) ?_
        refine jt_ifbeq jm_m112 17 (tgt := 49) (nxt := 39) rfl rfl rfl (fun c36 => ?_) (fun c36 => ?_)
        · refine jt_go jm_m112 23 1 (f' := (52, [(0, .inr (.inr (0, 0, 0))), (1, .inl (nI c)), (2, .inl (nI d)), (3, .inl (nI n)), (4, .inl (v)), (5, .inl (q))], [.inr (.inl (lN 1000000001))], h)) (P := True) rfl trivial ?_
          refine jt_lret jm_m112 24 rfl ?_
          exact ⟨jl_rt (if_neg (fun z => c36 z.2.2.2.1)).symm, jf_fr_rf⟩
        · obtain ⟨t, gt, hbt, rfl⟩ := jx_win2 (by decide) (by decide) c36
          refine jt_go jm_m112 18 3 (f' := (43, [(0, .inr (.inr (0, 0, 0))), (1, .inl (nI c)), (2, .inl (nI d)), (3, .inl (nI n)), (4, .inl (nI t)), (5, .inl (q))], [.inl (nI 1), .inl (nI 0), .inl (q)], h)) (P := True) rfl trivial ?_
          refine jt_callp (w := .inl (jm_b (nI 0 ≤ q ∧ q ≤ nI 1))) jm_m112 21 (mi' := 136) (as := [.inl (q), .inl (nI 0), .inl (nI 1)]) (rest := []) (nxt := 46) rfl rfl jm_m136 rfl rfl (ta_within) ?_
          refine jt_ifbne jm_m112 22 (tgt := 53) (nxt := 49) rfl rfl rfl (fun c46 => ?_) (fun c46 => ?_)
          · obtain ⟨w, hbw, rfl⟩ := jx_win (by decide) c46
            refine jt_go jm_m112 25 4 (f' := (59, [(8, .inl (nI 0)), (6, .inr (.inl (lN 0))), (0, .inr (.inr (0, 0, 0))), (1, .inl (nI c)), (2, .inl (nI d)), (3, .inl (nI n)), (4, .inl (nI t)), (5, .inl (nI w))], [], h)) (P := True) rfl trivial ?_
            refine jt_pick (L' := [(0, .inr (.inr (0, 0, 0))), (1, .inl (nI c)), (2, .inl (nI d)), (3, .inl (nI n)), (4, .inl (nI t)), (5, .inl (nI w)), (6, .inr (.inl (lN 0))), (8, .inl (nI 0))]) [2, 3, 4, 5, 6, 7, 1, 0] rfl ?_
            refine jt_mono (ca_dogs_l W hbc hbd hbn hbt (by omega) hbw 0 (Nat.zero_le _) _ R jf_fr_rf) (fun u h2 zz => ⟨zz.1.trans (jl_rt ?_), zz.2⟩)
            unfold za_dogs
            refine Eq.trans ?_ (if_pos ⟨c8, c15, c25, c36, c46⟩).symm
            rw [nI_clamp (n := c) (by omega), nI_clamp (n := d) (by omega), nI_clamp (n := n) (by omega), nI_clamp (n := t) (by omega), nI_clamp (n := w) (by omega)]
          · refine jt_go jm_m112 23 1 (f' := (52, [(0, .inr (.inr (0, 0, 0))), (1, .inl (nI c)), (2, .inl (nI d)), (3, .inl (nI n)), (4, .inl (nI t)), (5, .inl (q))], [.inr (.inl (lN 1000000001))], h)) (P := True) rfl trivial ?_
            refine jt_lret jm_m112 24 rfl ?_
            exact ⟨jl_rt (if_neg (fun z => c46 z.2.2.2.2)).symm, jf_fr_rf⟩
