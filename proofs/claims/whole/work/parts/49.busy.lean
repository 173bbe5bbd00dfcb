/-! Busiest: the class. -/
def sp_bv (g : Nat → Nat) : Nat → Nat → Nat
  | 0, _ => 0
  | n + 1, p => sp_bv g n p + sp_sum (fun c => if sp_it g (n + 1) (38 + 5 * c) = p then 1 else 0) (g 0)
theorem sp_bv_le {g : Nat → Nat} (W : jw g) (p : Nat) : ∀ n, sp_bv g n p ≤ 6 * n
  | 0 => Nat.zero_le _
  | n + 1 => by
    have h1 := sp_bv_le W p n
    have h2 : sp_sum (fun c => if sp_it g (n + 1) (38 + 5 * c) = p then 1 else 0) (g 0) ≤ 1 * g 0 := sp_sum_le (g 0) (fun i _ => by split <;> omega)
    have bn := jw_n W
    show sp_bv g n p + sp_sum _ (g 0) ≤ _
    omega
def sp_arg (V : Nat → Nat) : Nat → Nat
  | 0 => 0
  | k + 1 => if V (sp_arg V k) < V k then k else sp_arg V k
theorem sp_arg_lt (V : Nat → Nat) : ∀ k, sp_arg V (k + 1) ≤ k
  | 0 => by show (if V (sp_arg V 0) < V 0 then 0 else 0) ≤ 0; split <;> exact Nat.le_refl 0
  | k + 1 => by
    have := sp_arg_lt V k
    show (if V (sp_arg V (k + 1)) < V (k + 1) then k + 1 else sp_arg V (k + 1)) ≤ k + 1
    split <;> omega
def jv_fr (h h2 : jm_M) : Prop := ∀ k : jm_K, ¬ ((k.1 = 2 ∨ k.1 = 6) ∧ k.2.1 = 1) → k ≠ (0, 0, 3) → h2 k = h k
theorem jv_rf {h : jm_M} : jv_fr h h := fun _ _ _ => rfl
theorem jv_tr {h h2 h3 : jm_M} (a : jv_fr h h2) (b : jv_fr h2 h3) : jv_fr h h3 := fun k p q => (b k p q).trans (a k p q)
theorem jv_of {h h2 : jm_M} (a : jf_fr 1 h h2) : jv_fr h h2 := fun k p _ => a k p
theorem jv_of3 {h h2 : jm_M} (a : ∀ q : jm_K, q ≠ (0, 0, 3) → h2 q = h q) : jv_fr h h2 := fun k _ q => a k q
theorem jf_mv3 {h h2 : jm_M} {j : Nat} {g : Nat → Nat} (R : jf_rel h j g) (a : ∀ q : jm_K, q ≠ (0, 0, 3) → h2 q = h q) : jf_rel h2 j g := jf_mov R (fun k hk => a k (fun q => by rw [q] at hk; exact absurd hk.1 (by decide)))
set_option maxHeartbeats 4000000 in
set_option maxRecDepth 20000 in
theorem ca_vis_i {h : jm_M} {g : Nat → Nat} (W : jw g) {n k : Nat} (hn : n ≤ 99) (hkn : k < n) {Q : Option jm_V → jm_M → Prop} (kont : ∀ h2 : jm_M, jf_rel h2 1 (sp_it g (k + 1)) → jv_fr h h2 → (∀ p, p < 16 → h2 (0, 0, 3) p = nI (sp_bv g (k + 1) p)) → jt_T 104 (70, [(3, .inl (nI (g 0))), (0, .inr (.inr (0, 0, 0))), (1, .inl (nI n)), (2, .inl (nI (k + 1)))], [], h2) Q) : ∀ c, c ≤ g 0 → ∀ hm : jm_M, (jf_rel hm 1 (sp_it g (k + 1))) → (jv_fr h hm) → (∀ p, p < 16 → hm (0, 0, 3) p = nI (sp_bv g k p + sp_sum (fun q => if sp_it g (k + 1) (38 + 5 * q) = p then 1 else 0) c)) → jt_T 104 (35, [(3, .inl (nI c)), (0, .inr (.inr (0, 0, 0))), (1, .inl (nI n)), (2, .inl (nI (k + 1)))], [], hm) (Q) := jx_up (P := fun c => ∀ hm : jm_M, (jf_rel hm 1 (sp_it g (k + 1))) → (jv_fr h hm) → (∀ p, p < 16 → hm (0, 0, 3) p = nI (sp_bv g k p + sp_sum (fun q => if sp_it g (k + 1) (38 + 5 * q) = p then 1 else 0) c)) → jt_T 104 (35, [(3, .inl (nI c)), (0, .inr (.inr (0, 0, 0))), (1, .inl (nI n)), (2, .inl (nI (k + 1)))], [], hm) (Q)) (fun c hk nx hm Rm Fm Z => by
  have Wk := (jw_it W (k + 1)).1
  have e0 := (jw_it W (k + 1)).2.1
  have bn := jw_n W
  refine jt_go jm_m104 19 4 (f' := (43, [(3, .inl (nI c)), (0, .inr (.inr (0, 0, 0))), (1, .inl (nI n)), (2, .inl (nI (k + 1)))], [.inl (hm (2, 1, 0) 9), .inl (nI c)], hm)) (P := True) rfl trivial ?_
  refine jt_ti (show (hm (2, 1, 0) 9) = nI ((sp_it g (k + 1)) 0) from jf_cats Rm) ?_
  have bq1 := jw_n Wk
  refine jt_nicge jm_m104 23 (a := c) (b := (sp_it g (k + 1)) 0) (by omega) (by omega) (tgt := 70) (nxt := 46) rfl rfl rfl (fun c43 => ?_) (fun c43 => ?_)
  · refine jt_pick (L' := [(3, .inl (nI c)), (0, .inr (.inr (0, 0, 0))), (1, .inl (nI n)), (2, .inl (nI (k + 1)))]) [0, 1, 2, 3] rfl ?_
    have e_ : c = g 0 := by omega
    subst e_
    exact kont hm Rm Fm Z
  · refine jt_go jm_m104 24 7 (f' := (59, [(3, .inl (nI c)), (0, .inr (.inr (0, 0, 0))), (1, .inl (nI n)), (2, .inl (nI (k + 1)))], [.inl (hm (2, 1, 3) (nI c).toNatClampNeg), .inr (.inr (0, 0, 3))], hm)) (P := vp_in (nI c) 6 ∧ True) rfl ⟨(vp_in_nI (by omega) (by decide)), trivial⟩ ?_
    refine jt_ti (show (hm (2, 1, 3) (nI c).toNatClampNeg) = nI ((sp_it g (k + 1)) (38 + 5 * c)) from jf_at Rm (c := c) (nI_clamp (by omega)) (by omega)) ?_
    have bq2 := jw_at Wk (c := c) (by omega)
    refine jt_go jm_m104 31 2 (f' := (61, [(3, .inl (nI c)), (0, .inr (.inr (0, 0, 0))), (1, .inl (nI n)), (2, .inl (nI (k + 1)))], [.inl (hm (0, 0, 3) (nI ((sp_it g (k + 1)) (38 + 5 * c))).toNatClampNeg), .inl (nI ((sp_it g (k + 1)) (38 + 5 * c))), .inr (.inr (0, 0, 3))], hm)) (P := vp_in (nI ((sp_it g (k + 1)) (38 + 5 * c))) 16 ∧ True) rfl ⟨(vp_in_nI (by omega) (by decide)), trivial⟩ ?_
    refine jt_ti (show (hm (0, 0, 3) (nI ((sp_it g (k + 1)) (38 + 5 * c))).toNatClampNeg) = nI (sp_bv g k ((sp_it g (k + 1)) (38 + 5 * c)) + sp_sum (fun q => if sp_it g (k + 1) (38 + 5 * q) = ((sp_it g (k + 1)) (38 + 5 * c)) then 1 else 0) c) from by rw [nI_clamp (by omega)]; exact Z _ (by omega)) ?_
    refine jt_go jm_m104 33 2 (f' := (63, [(3, .inl (nI c)), (0, .inr (.inr (0, 0, 0))), (1, .inl (nI n)), (2, .inl (nI (k + 1)))], [.inl ((nI (sp_bv g k ((sp_it g (k + 1)) (38 + 5 * c)) + sp_sum (fun q => if sp_it g (k + 1) (38 + 5 * q) = ((sp_it g (k + 1)) (38 + 5 * c)) then 1 else 0) c)) + (nI 1)), .inl (nI ((sp_it g (k + 1)) (38 + 5 * c))), .inr (.inr (0, 0, 3))], hm)) (P := True) rfl trivial ?_
    refine jt_ti (show ((nI (sp_bv g k ((sp_it g (k + 1)) (38 + 5 * c)) + sp_sum (fun q => if sp_it g (k + 1) (38 + 5 * q) = ((sp_it g (k + 1)) (38 + 5 * c)) then 1 else 0) c)) + (nI 1)) = nI (sp_bv g k ((sp_it g (k + 1)) (38 + 5 * c)) + sp_sum (fun q => if sp_it g (k + 1) (38 + 5 * q) = ((sp_it g (k + 1)) (38 + 5 * c)) then 1 else 0) c + 1) from nI_add _ _) ?_
    refine jt_goM jm_m104 35 1 (pc' := 64) (L' := [(3, .inl (nI c)), (0, .inr (.inr (0, 0, 0))), (1, .inl (nI n)), (2, .inl (nI (k + 1)))]) (st' := []) (m' := jm_set hm (0, 0, 3) (upd (hm (0, 0, 3)) (nI ((sp_it g (k + 1)) (38 + 5 * c))).toNatClampNeg (nI (sp_bv g k ((sp_it g (k + 1)) (38 + 5 * c)) + sp_sum (fun q => if sp_it g (k + 1) (38 + 5 * q) = ((sp_it g (k + 1)) (38 + 5 * c)) then 1 else 0) c + 1)))) (P := vp_in (nI ((sp_it g (k + 1)) (38 + 5 * c))) 16 ∧ True) rfl ⟨(vp_in_nI (by omega) (by decide)), trivial⟩ (fun h1 eh1 => ?_)
    refine jt_inc jm_m104 36 (c := c) (L' := [(3, .inl (nI (c + 1))), (0, .inr (.inr (0, 0, 0))), (1, .inl (nI n)), (2, .inl (nI (k + 1)))]) rfl rfl rfl rfl ?_
    refine jt_go jm_m104 37 1 (f' := (35, [(3, .inl (nI (c + 1))), (0, .inr (.inr (0, 0, 0))), (1, .inl (nI n)), (2, .inl (nI (k + 1)))], [], h1)) (P := True) rfl trivial ?_
    refine jt_pick (L' := [(3, .inl (nI (c + 1))), (0, .inr (.inr (0, 0, 0))), (1, .inl (nI n)), (2, .inl (nI (k + 1)))]) [0, 1, 2, 3] rfl ?_
    have a3 : ∀ q : jm_K, q ≠ (0, 0, 3) → h1 q = hm q := fun q hq => by rw [eh1]; exact jm_set_ne hq
    refine nx (by omega) h1 (jf_mv3 Rm a3) (jv_tr Fm (jv_of3 a3)) (fun p hp => ?_)
    rw [eh1, jm_set_eq, nI_clamp (by omega)]
    show _ = nI (sp_bv g k p + (sp_sum _ c + if (sp_it g (k + 1) (38 + 5 * c)) = p then 1 else 0))
    by_cases q : p = (sp_it g (k + 1) (38 + 5 * c))
    · rw [← q, jx_eq, if_pos rfl]; exact congrArg nI (by omega)
    · rw [jx_ne q, Z p hp, if_neg (fun z => q z.symm)]; rfl)
set_option maxHeartbeats 4000000 in
set_option maxRecDepth 20000 in
theorem ca_vis_o {h : jm_M} {g : Nat → Nat} (W : jw g) {n : Nat} (hn : n ≤ 99) : ∀ k, k ≤ n → ∀ hm : jm_M, (jf_rel hm 1 (sp_it g k)) → (jv_fr h hm) → (∀ p, p < 16 → hm (0, 0, 3) p = nI (sp_bv g k p)) → jt_T 104 (21, [(0, .inr (.inr (0, 0, 0))), (1, .inl (nI n)), (2, .inl (nI (k + 1)))], [], hm) (fun u h' => u = none ∧ (∀ p, p < 16 → h' (0, 0, 3) p = nI (sp_bv g n p)) ∧ jv_fr h h') := jx_up (P := fun k => ∀ hm : jm_M, (jf_rel hm 1 (sp_it g k)) → (jv_fr h hm) → (∀ p, p < 16 → hm (0, 0, 3) p = nI (sp_bv g k p)) → jt_T 104 (21, [(0, .inr (.inr (0, 0, 0))), (1, .inl (nI n)), (2, .inl (nI (k + 1)))], [], hm) (fun u h' => u = none ∧ (∀ p, p < 16 → h' (0, 0, 3) p = nI (sp_bv g n p)) ∧ jv_fr h h')) (fun k hk nx hm Rm Fm Z => by
  have Wk := (jw_it W k).1
  refine jt_go jm_m104 11 2 (f' := (23, [(0, .inr (.inr (0, 0, 0))), (1, .inl (nI n)), (2, .inl (nI (k + 1)))], [.inl (nI n), .inl (nI (k + 1))], hm)) (P := True) rfl trivial ?_
  refine jt_nicgt jm_m104 13 (a := k + 1) (b := n) (by omega) (by omega) (tgt := 76) (nxt := 26) rfl rfl rfl (fun c23 => ?_) (fun c23 => ?_)
  · refine jt_vret jm_m104 40 rfl ?_
    have e_ : k = n := by omega
    subst e_
    exact ⟨rfl, Z, Fm⟩
  · refine jt_go jm_m104 14 2 (f' := (30, [(0, .inr (.inr (0, 0, 0))), (1, .inl (nI n)), (2, .inl (nI (k + 1)))], [.inr (.inr (2, 1, 0))], hm)) (P := True) rfl trivial ?_
    refine jt_call jm_m104 16 (mi' := 18) (as := [.inr (.inr (2, 1, 0))]) (rest := []) (nxt := 33) rfl rfl jm_m18 rfl rfl (ta_hour Rm Wk) ?_
    rintro u h1 ⟨rfl, Rh1, Fh1, Ch1⟩
    show jt_T 104 (33, [(0, .inr (.inr (0, 0, 0))), (1, .inl (nI n)), (2, .inl (nI (k + 1)))], [], h1) _
    have Rh1 : jf_rel h1 1 (sp_it g (k + 1)) := Rh1
    have Wh1 := (jw_it W (k + 1)).1
    have uh1 := sp_set_lt Wk (kept := false)
    refine jt_go jm_m104 17 2 (f' := (35, [(3, .inl (nI 0)), (0, .inr (.inr (0, 0, 0))), (1, .inl (nI n)), (2, .inl (nI (k + 1)))], [], h1)) (P := True) rfl trivial ?_
    refine jt_pick (L' := [(3, .inl (nI 0)), (0, .inr (.inr (0, 0, 0))), (1, .inl (nI n)), (2, .inl (nI (k + 1)))]) [0, 1, 2, 3] rfl ?_
    have kont : ∀ h2 : jm_M, jf_rel h2 1 (sp_it g (k + 1)) → jv_fr h h2 → (∀ p, p < 16 → h2 (0, 0, 3) p = nI (sp_bv g (k + 1) p)) → jt_T 104 (70, [(3, .inl (nI (g 0))), (0, .inr (.inr (0, 0, 0))), (1, .inl (nI n)), (2, .inl (nI (k + 1)))], [], h2) (fun u h' => u = none ∧ (∀ p, p < 16 → h' (0, 0, 3) p = nI (sp_bv g n p)) ∧ jv_fr h h') := by
      intro h2 R2 F2 Z2
      refine jt_inc jm_m104 38 (c := k + 1) (L' := [(2, .inl (nI (k + 1 + 1))), (3, .inl (nI (g 0))), (0, .inr (.inr (0, 0, 0))), (1, .inl (nI n))]) rfl rfl rfl rfl ?_
      refine jt_go jm_m104 39 1 (f' := (21, [(2, .inl (nI (k + 1 + 1))), (3, .inl (nI (g 0))), (0, .inr (.inr (0, 0, 0))), (1, .inl (nI n))], [], h2)) (P := True) rfl trivial ?_
      refine jt_pick (L' := [(0, .inr (.inr (0, 0, 0))), (1, .inl (nI n)), (2, .inl (nI (k + 1 + 1)))]) [2, 3, 0] rfl ?_
      exact nx (by omega) h2 R2 F2 Z2
    refine ca_vis_i W hn (by omega) kont 0 (Nat.zero_le _) h1 Rh1 (jv_tr Fm (jv_of Fh1)) (fun p hp => ?_)
    rw [Fh1 (0, 0, 3) (by decide)]
    exact Z p hp)
set_option maxHeartbeats 4000000 in
set_option maxRecDepth 20000 in
theorem ca_vis {h : jm_M} {g : Nat → Nat} (R : jf_rel h 0 g) (W : jw g) {n : Nat} (hn : n ≤ 99) : jt_T 104 (0, [(0, .inr (.inr (0, 0, 0))), (1, .inl (nI n))], [], h) (fun u h' => u = none ∧ (∀ p, p < 16 → h' (0, 0, 3) p = nI (sp_bv g n p)) ∧ jv_fr h h') := by
  refine jt_go jm_m104 0 3 (f' := (5, [(0, .inr (.inr (0, 0, 0))), (1, .inl (nI n))], [.inl (nI 0), .inr (.inr (0, 0, 3))], h)) (P := True) rfl trivial ?_
  refine jt_call jm_m104 3 (mi' := 239) (as := [.inr (.inr (0, 0, 3)), .inl (nI 0)]) (rest := []) (nxt := 8) rfl rfl jm_m239 rfl rfl (tk_fillv) ?_
  rintro u h1 ⟨rfl, Z1, F1⟩
  show jt_T 104 (8, [(0, .inr (.inr (0, 0, 0))), (1, .inl (nI n))], [], h1) _
  have Rh1 : jf_rel h1 0 g := jf_mv3 R F1
  refine jt_go jm_m104 4 4 (f' := (16, [(0, .inr (.inr (0, 0, 0))), (1, .inl (nI n))], [.inr (.inr (2, 0, 0)), .inr (.inr (2, 1, 0))], h1)) (P := True) rfl trivial ?_
  refine jt_call jm_m104 8 (mi' := 6) (as := [.inr (.inr (2, 1, 0)), .inr (.inr (2, 0, 0))]) (rest := []) (nxt := 19) rfl rfl jm_m6 rfl rfl (ta_becomes Rh1 W (by decide)) ?_
  rintro u h2 ⟨rfl, Rh2, Fh2⟩
  show jt_T 104 (19, [(0, .inr (.inr (0, 0, 0))), (1, .inl (nI n))], [], h2) _
  have Rh2 : jf_rel h2 1 g := Rh2
  have Wh2 : jw (g) := W
  have Zh2 := jf_mov0 Rh1 Fh2
  refine jt_go jm_m104 9 2 (f' := (21, [(2, .inl (nI 1)), (0, .inr (.inr (0, 0, 0))), (1, .inl (nI n))], [], h2)) (P := True) rfl trivial ?_
  refine jt_pick (L' := [(0, .inr (.inr (0, 0, 0))), (1, .inl (nI n)), (2, .inl (nI 1))]) [1, 2, 0] rfl ?_
  exact ca_vis_o W hn 0 (Nat.zero_le _) h2 Rh2 (jv_tr (jv_of3 F1) (jv_of Fh2)) (fun p hp => by rw [Fh2 (0, 0, 3) (by decide)]; exact Z1 p hp)
set_option maxHeartbeats 4000000 in
set_option maxRecDepth 20000 in
theorem ca_bus_l {h : jm_M} {V : Nat → Nat} (Z : ∀ p, p < 16 → h (0, 0, 3) p = nI (V p)) (bV : ∀ p, V p < 2 ^ 31) {n w : Nat} (hw : w ≤ 1) : ∀ k, k ≤ 15 → jt_T 103 (28, [(0, .inr (.inr (0, 0, 0))), (1, .inl (nI n)), (2, .inl (nI w)), (3, .inl (nI (sp_arg V (k + 1)))), (4, .inl (nI (k + 1)))], [], h) (fun u h' => u = some (.inl (if w = 0 then nI (sp_arg V 16) else nI (V (sp_arg V 16)))) ∧ h' = h) := jx_up (fun k hk nx => by
  have ba := sp_arg_lt V k
  refine jt_go jm_m103 17 2 (f' := (32, [(0, .inr (.inr (0, 0, 0))), (1, .inl (nI n)), (2, .inl (nI w)), (3, .inl (nI (sp_arg V (k + 1)))), (4, .inl (nI (k + 1)))], [.inl (nI 16), .inl (nI (k + 1))], h)) (P := True) rfl trivial ?_
  refine jt_nicge jm_m103 19 (a := k + 1) (b := 16) (by omega) (by omega) (tgt := 60) (nxt := 35) rfl rfl rfl (fun c32 => ?_) (fun c32 => ?_)
  · refine jt_go jm_m103 33 1 (f' := (61, [(0, .inr (.inr (0, 0, 0))), (1, .inl (nI n)), (2, .inl (nI w)), (3, .inl (nI (sp_arg V (k + 1)))), (4, .inl (nI (k + 1)))], [.inl (nI w)], h)) (P := True) rfl trivial ?_
    refine jt_nifne jm_m103 34 (by omega) (tgt := 68) (nxt := 64) rfl rfl rfl (fun c61 => ?_) (fun c61 => ?_)
    · refine jt_go jm_m103 37 4 (f' := (74, [(0, .inr (.inr (0, 0, 0))), (1, .inl (nI n)), (2, .inl (nI w)), (3, .inl (nI (sp_arg V (k + 1)))), (4, .inl (nI (k + 1)))], [.inl (h (0, 0, 3) (nI (sp_arg V (k + 1))).toNatClampNeg)], h)) (P := vp_in (nI (sp_arg V (k + 1))) 16 ∧ True) rfl ⟨(vp_in_nI (by omega) (by decide)), trivial⟩ ?_
      refine jt_ti (show (h (0, 0, 3) (nI (sp_arg V (k + 1))).toNatClampNeg) = nI (V (sp_arg V (k + 1))) from by rw [nI_clamp (by omega)]; exact Z _ (by omega)) ?_
      have bq1 := bV (sp_arg V (k + 1))
      refine jt_iret jm_m103 41 rfl ?_
      have e_ : k = 15 := by omega
      subst e_
      refine ⟨jt_li ?_, rfl⟩
      first | rw [if_pos (by omega)] | rw [if_neg (by omega)]
    · refine jt_go jm_m103 35 2 (f' := (74, [(0, .inr (.inr (0, 0, 0))), (1, .inl (nI n)), (2, .inl (nI w)), (3, .inl (nI (sp_arg V (k + 1)))), (4, .inl (nI (k + 1)))], [.inl (nI (sp_arg V (k + 1)))], h)) (P := True) rfl trivial ?_
      refine jt_iret jm_m103 41 rfl ?_
      have e_ : k = 15 := by omega
      subst e_
      refine ⟨jt_li ?_, rfl⟩
      first | rw [if_pos (by omega)] | rw [if_neg (by omega)]
  · refine jt_go jm_m103 20 4 (f' := (42, [(0, .inr (.inr (0, 0, 0))), (1, .inl (nI n)), (2, .inl (nI w)), (3, .inl (nI (sp_arg V (k + 1)))), (4, .inl (nI (k + 1)))], [.inl (h (0, 0, 3) (nI (k + 1)).toNatClampNeg)], h)) (P := vp_in (nI (k + 1)) 16 ∧ True) rfl ⟨(vp_in_nI (by omega) (by decide)), trivial⟩ ?_
    refine jt_ti (show (h (0, 0, 3) (nI (k + 1)).toNatClampNeg) = nI (V (k + 1)) from by rw [nI_clamp (by omega)]; exact Z _ (by omega)) ?_
    have bq2 := bV (k + 1)
    refine jt_go jm_m103 24 4 (f' := (48, [(0, .inr (.inr (0, 0, 0))), (1, .inl (nI n)), (2, .inl (nI w)), (3, .inl (nI (sp_arg V (k + 1)))), (4, .inl (nI (k + 1)))], [.inl (h (0, 0, 3) (nI (sp_arg V (k + 1))).toNatClampNeg), .inl (nI (V (k + 1)))], h)) (P := vp_in (nI (sp_arg V (k + 1))) 16 ∧ True) rfl ⟨(vp_in_nI (by omega) (by decide)), trivial⟩ ?_
    refine jt_ti (show (h (0, 0, 3) (nI (sp_arg V (k + 1))).toNatClampNeg) = nI (V (sp_arg V (k + 1))) from by rw [nI_clamp (by omega)]; exact Z _ (by omega)) ?_
    have bq3 := bV (sp_arg V (k + 1))
    refine jt_nicle jm_m103 28 (a := V (k + 1)) (b := V (sp_arg V (k + 1))) (by omega) (by omega) (tgt := 54) (nxt := 51) rfl rfl rfl (fun c48 => ?_) (fun c48 => ?_)
    · refine jt_inc jm_m103 31 (c := k + 1) (L' := [(4, .inl (nI (k + 1 + 1))), (0, .inr (.inr (0, 0, 0))), (1, .inl (nI n)), (2, .inl (nI w)), (3, .inl (nI (sp_arg V (k + 1))))]) rfl rfl rfl rfl ?_
      refine jt_go jm_m103 32 1 (f' := (28, [(4, .inl (nI (k + 1 + 1))), (0, .inr (.inr (0, 0, 0))), (1, .inl (nI n)), (2, .inl (nI w)), (3, .inl (nI (sp_arg V (k + 1))))], [], h)) (P := True) rfl trivial ?_
      refine jt_pick (L' := [(0, .inr (.inr (0, 0, 0))), (1, .inl (nI n)), (2, .inl (nI w)), (3, .inl (nI (sp_arg V (k + 1)))), (4, .inl (nI (k + 1 + 1)))]) [1, 2, 3, 4, 0] rfl ?_
      have e_ : sp_arg V (k + 1 + 1) = sp_arg V (k + 1) := by
        show (if V (sp_arg V (k + 1)) < V (k + 1) then k + 1 else sp_arg V (k + 1)) = _
        first | rw [if_pos (by omega)] | rw [if_neg (by omega)]
      have q := nx (by omega)
      rw [e_] at q
      exact q
    · refine jt_go jm_m103 29 2 (f' := (54, [(3, .inl (nI (k + 1))), (0, .inr (.inr (0, 0, 0))), (1, .inl (nI n)), (2, .inl (nI w)), (4, .inl (nI (k + 1)))], [], h)) (P := True) rfl trivial ?_
      refine jt_inc jm_m103 31 (c := k + 1) (L' := [(4, .inl (nI (k + 1 + 1))), (3, .inl (nI (k + 1))), (0, .inr (.inr (0, 0, 0))), (1, .inl (nI n)), (2, .inl (nI w))]) rfl rfl rfl rfl ?_
      refine jt_go jm_m103 32 1 (f' := (28, [(4, .inl (nI (k + 1 + 1))), (3, .inl (nI (k + 1))), (0, .inr (.inr (0, 0, 0))), (1, .inl (nI n)), (2, .inl (nI w))], [], h)) (P := True) rfl trivial ?_
      refine jt_pick (L' := [(0, .inr (.inr (0, 0, 0))), (1, .inl (nI n)), (2, .inl (nI w)), (3, .inl (nI (k + 1))), (4, .inl (nI (k + 1 + 1)))]) [2, 3, 4, 1, 0] rfl ?_
      have e_ : sp_arg V (k + 1 + 1) = k + 1 := by
        show (if V (sp_arg V (k + 1)) < V (k + 1) then k + 1 else sp_arg V (k + 1)) = _
        first | rw [if_pos (by omega)] | rw [if_neg (by omega)]
      have q := nx (by omega)
      rw [e_] at q
      exact q)
def zb_busiest (g : Nat → Nat) (n w : Nat) : Int32 := if w = 0 then nI (sp_arg (sp_bv g n) 16) else nI (sp_bv g n (sp_arg (sp_bv g n) 16))
def za_busiest (g : Nat → Nat) (x y : Int32) : Int32 := if (nI 0 ≤ x ∧ x ≤ nI 99) ∧ (nI 0 ≤ y ∧ y ≤ nI 1) then zb_busiest g x.toNatClampNeg y.toNatClampNeg else (-1)
set_option maxHeartbeats 4000000 in
set_option maxRecDepth 20000 in
theorem ca_busiest {h : jm_M} {g : Nat → Nat} (R : jf_rel h 0 g) (W : jw g) {x y : Int32} : jt_T 103 (0, [(0, .inr (.inr (0, 0, 0))), (1, .inl (x)), (2, .inl (y))], [], h) (fun u h' => u = some (.inl (za_busiest g x y)) ∧ jv_fr h h') := by
  have bn := jw_n W
  have bm := jw_m W
  have bt := jw_t W
  refine jt_go jm_m103 0 1 (f' := (1, [(0, .inr (.inr (0, 0, 0))), (1, .inl (x)), (2, .inl (y))], [.inl (x)], h)) (P := True) rfl trivial ?_
  refine jt_callp (w := .inl (jm_b (nI 0 ≤ x ∧ x ≤ nI 99))) jm_m103 1 (mi' := 141) (as := [.inl (x)]) (rest := []) (nxt := 4) rfl rfl jm_m141 rfl rfl (ta_ahead) ?_
  refine jt_ifbeq jm_m103 2 (tgt := 16) (nxt := 7) rfl rfl rfl (fun c4 => ?_) (fun c4 => ?_)
  · refine jt_go jm_m103 8 1 (f' := (17, [(0, .inr (.inr (0, 0, 0))), (1, .inl (x)), (2, .inl (y))], [.inl ((-1))], h)) (P := True) rfl trivial ?_
    refine jt_iret jm_m103 9 rfl ?_
    exact ⟨jt_li (if_neg (fun z => c4 z.1)).symm, jv_rf⟩
  · obtain ⟨n, hbn, rfl⟩ := jx_win (by decide) c4
    refine jt_go jm_m103 3 3 (f' := (10, [(0, .inr (.inr (0, 0, 0))), (1, .inl (nI n)), (2, .inl (y))], [.inl (nI 1), .inl (nI 0), .inl (y)], h)) (P := True) rfl trivial ?_
    refine jt_callp (w := .inl (jm_b (nI 0 ≤ y ∧ y ≤ nI 1))) jm_m103 6 (mi' := 136) (as := [.inl (y), .inl (nI 0), .inl (nI 1)]) (rest := []) (nxt := 13) rfl rfl jm_m136 rfl rfl (ta_within) ?_
    refine jt_ifbne jm_m103 7 (tgt := 18) (nxt := 16) rfl rfl rfl (fun c13 => ?_) (fun c13 => ?_)
    · obtain ⟨w, hbw, rfl⟩ := jx_win (by decide) c13
      refine jt_go jm_m103 10 2 (f' := (20, [(0, .inr (.inr (0, 0, 0))), (1, .inl (nI n)), (2, .inl (nI w))], [.inl (nI n), .inr (.inr (0, 0, 0))], h)) (P := True) rfl trivial ?_
      refine jt_call jm_m103 12 (mi' := 104) (as := [.inr (.inr (0, 0, 0)), .inl (nI n)]) (rest := []) (nxt := 23) rfl rfl jm_m104 rfl rfl (ca_vis R W (by omega)) ?_
      rintro u h1 ⟨rfl, Z1, F1⟩
      show jt_T 103 (23, [(0, .inr (.inr (0, 0, 0))), (1, .inl (nI n)), (2, .inl (nI w))], [], h1) _
      refine jt_go jm_m103 13 4 (f' := (28, [(4, .inl (nI 1)), (3, .inl (nI 0)), (0, .inr (.inr (0, 0, 0))), (1, .inl (nI n)), (2, .inl (nI w))], [], h1)) (P := True) rfl trivial ?_
      refine jt_pick (L' := [(0, .inr (.inr (0, 0, 0))), (1, .inl (nI n)), (2, .inl (nI w)), (3, .inl (nI 0)), (4, .inl (nI 1))]) [2, 3, 4, 1, 0] rfl ?_
      have big := ca_bus_l Z1 (fun p => by have := sp_bv_le W p n; omega) (n := n) (w := w) (by omega) 0 (Nat.zero_le _)
      rw [show sp_arg (sp_bv g n) (0 + 1) = 0 from if_neg (Nat.lt_irrefl _)] at big
      refine jt_mono big (fun u h9 zz => ?_)
      obtain ⟨z1, z2⟩ := zz
      rw [z2]
      refine ⟨z1.trans (jt_li ?_), F1⟩
      refine Eq.trans ?_ (if_pos ⟨c4, c13⟩).symm
      rw [nI_clamp (n := n) (by omega), nI_clamp (n := w) (by omega)]
      rfl
    · refine jt_go jm_m103 8 1 (f' := (17, [(0, .inr (.inr (0, 0, 0))), (1, .inl (nI n)), (2, .inl (y))], [.inl ((-1))], h)) (P := True) rfl trivial ?_
      refine jt_iret jm_m103 9 rfl ?_
      exact ⟨jt_li (if_neg (fun z => c13 z.2)).symm, jv_rf⟩
