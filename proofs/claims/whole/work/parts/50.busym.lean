/-! Busiest: the reference. -/
def jb_fr (h h2 : jm_M) : Prop := ∀ k : jm_K, k ≠ (5, 1, 0) → k ≠ (4, 0, 2) → h2 k = h k
theorem jb_rf {h : jm_M} : jb_fr h h := fun _ _ _ => rfl
theorem jb_tr {h h2 h3 : jm_M} (a : jb_fr h h2) (b : jb_fr h2 h3) : jb_fr h h3 := fun k p q => (b k p q).trans (a k p q)
theorem jb_of {h h2 : jm_M} (a : jg_fr 1 h h2) : jb_fr h h2 := fun k p _ => a k p
theorem jb_of3 {h h2 : jm_M} (a : ∀ q : jm_K, q ≠ (4, 0, 2) → h2 q = h q) : jb_fr h h2 := fun k _ q => a k q
theorem jg_mv3 {h h2 : jm_M} {j : Nat} {g : Nat → Nat} (R : jg_rel h j g) (a : ∀ q : jm_K, q ≠ (4, 0, 2) → h2 q = h q) : jg_rel h2 j g := fun i hi => by rw [a (5, j, 0) (fun q => absurd (congrArg (fun z : jm_K => z.1) q) (show ¬ (5 : Nat) = 4 by decide))]; exact R i hi
theorem sp_arg_l16 (V : Nat → Nat) : ∀ k, k ≤ 16 → sp_arg V k < 16
  | 0, _ => by show 0 < 16; decide
  | k + 1, h => by have := sp_arg_lt V k; omega
set_option maxHeartbeats 4000000 in
set_option maxRecDepth 20000 in
theorem cb_bus_l {h : jm_M} {V : Nat → Nat} (Z : ∀ p, p < 16 → h (4, 0, 2) p = nI (V p)) (bV : ∀ p, V p < 2 ^ 31) {n w : Nat} (hw : w ≤ 1) : ∀ k, k ≤ 16 → jt_T 207 (121, [(0, .inr (.inr (4, 0, 0))), (1, .inl (nI n)), (2, .inl (nI w)), (3, .inl (nI (sp_arg V k))), (4, .inl (nI k))], [], h) (fun u h' => u = some (.inl (if w = 0 then nI (sp_arg V 16) else nI (V (sp_arg V 16)))) ∧ h' = h) := jx_up (fun k hk nx => by
  have ba := sp_arg_l16 V k hk
  refine jt_go jm_m207 68 2 (f' := (125, [(0, .inr (.inr (4, 0, 0))), (1, .inl (nI n)), (2, .inl (nI w)), (3, .inl (nI (sp_arg V k))), (4, .inl (nI k))], [.inl (nI 16), .inl (nI k)], h)) (P := True) rfl trivial ?_
  refine jt_nicge jm_m207 70 (a := k) (b := 16) (by omega) (by omega) (tgt := 153) (nxt := 128) rfl rfl rfl (fun c125 => ?_) (fun c125 => ?_)
  · refine jt_go jm_m207 84 1 (f' := (154, [(0, .inr (.inr (4, 0, 0))), (1, .inl (nI n)), (2, .inl (nI w)), (3, .inl (nI (sp_arg V k))), (4, .inl (nI k))], [.inl (nI w)], h)) (P := True) rfl trivial ?_
    refine jt_nifne jm_m207 85 (by omega) (tgt := 161) (nxt := 157) rfl rfl rfl (fun c154 => ?_) (fun c154 => ?_)
    · refine jt_go jm_m207 88 4 (f' := (167, [(0, .inr (.inr (4, 0, 0))), (1, .inl (nI n)), (2, .inl (nI w)), (3, .inl (nI (sp_arg V k))), (4, .inl (nI k))], [.inl (h (4, 0, 2) (nI (sp_arg V k)).toNatClampNeg)], h)) (P := vp_in (nI (sp_arg V k)) 16 ∧ True) rfl ⟨(vp_in_nI (by omega) (by decide)), trivial⟩ ?_
      refine jt_ti (show (h (4, 0, 2) (nI (sp_arg V k)).toNatClampNeg) = nI (V (sp_arg V k)) from by rw [nI_clamp (by omega)]; exact Z _ (by omega)) ?_
      have bq1 := bV (sp_arg V k)
      refine jt_iret jm_m207 92 rfl ?_
      have e_ : k = 16 := by omega
      subst e_
      refine ⟨jt_li ?_, rfl⟩
      first | rw [if_pos (by omega)] | rw [if_neg (by omega)]
    · refine jt_go jm_m207 86 2 (f' := (167, [(0, .inr (.inr (4, 0, 0))), (1, .inl (nI n)), (2, .inl (nI w)), (3, .inl (nI (sp_arg V k))), (4, .inl (nI k))], [.inl (nI (sp_arg V k))], h)) (P := True) rfl trivial ?_
      refine jt_iret jm_m207 92 rfl ?_
      have e_ : k = 16 := by omega
      subst e_
      refine ⟨jt_li ?_, rfl⟩
      first | rw [if_pos (by omega)] | rw [if_neg (by omega)]
  · refine jt_go jm_m207 71 4 (f' := (135, [(0, .inr (.inr (4, 0, 0))), (1, .inl (nI n)), (2, .inl (nI w)), (3, .inl (nI (sp_arg V k))), (4, .inl (nI k))], [.inl (h (4, 0, 2) (nI k).toNatClampNeg)], h)) (P := vp_in (nI k) 16 ∧ True) rfl ⟨(vp_in_nI (by omega) (by decide)), trivial⟩ ?_
    refine jt_ti (show (h (4, 0, 2) (nI k).toNatClampNeg) = nI (V k) from by rw [nI_clamp (by omega)]; exact Z _ (by omega)) ?_
    have bq2 := bV k
    refine jt_go jm_m207 75 4 (f' := (141, [(0, .inr (.inr (4, 0, 0))), (1, .inl (nI n)), (2, .inl (nI w)), (3, .inl (nI (sp_arg V k))), (4, .inl (nI k))], [.inl (h (4, 0, 2) (nI (sp_arg V k)).toNatClampNeg), .inl (nI (V k))], h)) (P := vp_in (nI (sp_arg V k)) 16 ∧ True) rfl ⟨(vp_in_nI (by omega) (by decide)), trivial⟩ ?_
    refine jt_ti (show (h (4, 0, 2) (nI (sp_arg V k)).toNatClampNeg) = nI (V (sp_arg V k)) from by rw [nI_clamp (by omega)]; exact Z _ (by omega)) ?_
    have bq3 := bV (sp_arg V k)
    refine jt_nicle jm_m207 79 (a := V k) (b := V (sp_arg V k)) (by omega) (by omega) (tgt := 147) (nxt := 144) rfl rfl rfl (fun c141 => ?_) (fun c141 => ?_)
    · refine jt_inc jm_m207 82 (c := k) (L' := [(4, .inl (nI (k + 1))), (0, .inr (.inr (4, 0, 0))), (1, .inl (nI n)), (2, .inl (nI w)), (3, .inl (nI (sp_arg V k)))]) rfl rfl rfl rfl ?_
      refine jt_go jm_m207 83 1 (f' := (121, [(4, .inl (nI (k + 1))), (0, .inr (.inr (4, 0, 0))), (1, .inl (nI n)), (2, .inl (nI w)), (3, .inl (nI (sp_arg V k)))], [], h)) (P := True) rfl trivial ?_
      refine jt_pick (L' := [(0, .inr (.inr (4, 0, 0))), (1, .inl (nI n)), (2, .inl (nI w)), (3, .inl (nI (sp_arg V k))), (4, .inl (nI (k + 1)))]) [1, 2, 3, 4, 0] rfl ?_
      have e_ : sp_arg V (k + 1) = sp_arg V k := by
        show (if V (sp_arg V (k)) < V (k) then k else sp_arg V (k)) = _
        first | rw [if_pos (by omega)] | rw [if_neg (by omega)]
      have q := nx (by omega)
      rw [e_] at q
      exact q
    · refine jt_go jm_m207 80 2 (f' := (147, [(3, .inl (nI k)), (0, .inr (.inr (4, 0, 0))), (1, .inl (nI n)), (2, .inl (nI w)), (4, .inl (nI k))], [], h)) (P := True) rfl trivial ?_
      refine jt_inc jm_m207 82 (c := k) (L' := [(4, .inl (nI (k + 1))), (3, .inl (nI k)), (0, .inr (.inr (4, 0, 0))), (1, .inl (nI n)), (2, .inl (nI w))]) rfl rfl rfl rfl ?_
      refine jt_go jm_m207 83 1 (f' := (121, [(4, .inl (nI (k + 1))), (3, .inl (nI k)), (0, .inr (.inr (4, 0, 0))), (1, .inl (nI n)), (2, .inl (nI w))], [], h)) (P := True) rfl trivial ?_
      refine jt_pick (L' := [(0, .inr (.inr (4, 0, 0))), (1, .inl (nI n)), (2, .inl (nI w)), (3, .inl (nI k)), (4, .inl (nI (k + 1)))]) [2, 3, 4, 1, 0] rfl ?_
      have e_ : sp_arg V (k + 1) = k := by
        show (if V (sp_arg V (k)) < V (k) then k else sp_arg V (k)) = _
        first | rw [if_pos (by omega)] | rw [if_neg (by omega)]
      have q := nx (by omega)
      rw [e_] at q
      exact q)
set_option maxHeartbeats 4000000 in
set_option maxRecDepth 20000 in
theorem cb_vis_i {h : jm_M} {g : Nat → Nat} (W : jw g) {n w k : Nat} (hn : n ≤ 99) (hkn : k < n) {Q : Option jm_V → jm_M → Prop} (kont : ∀ h2 : jm_M, jg_rel h2 1 (sp_it g (k + 1)) → jb_fr h h2 → (∀ p, p < 16 → h2 (4, 0, 2) p = nI (sp_bv g (k + 1) p)) → jt_T 207 (110, [(5, .inl (nI (g 0))), (0, .inr (.inr (4, 0, 0))), (1, .inl (nI n)), (2, .inl (nI w)), (3, .inl (nI k))], [], h2) Q) : ∀ c, c ≤ g 0 → ∀ hm : jm_M, (jg_rel hm 1 (sp_it g (k + 1))) → (jb_fr h hm) → (∀ p, p < 16 → hm (4, 0, 2) p = nI (sp_bv g k p + sp_sum (fun q => if sp_it g (k + 1) (38 + 5 * q) = p then 1 else 0) c)) → jt_T 207 (73, [(5, .inl (nI c)), (0, .inr (.inr (4, 0, 0))), (1, .inl (nI n)), (2, .inl (nI w)), (3, .inl (nI k))], [], hm) (Q) := jx_up (P := fun c => ∀ hm : jm_M, (jg_rel hm 1 (sp_it g (k + 1))) → (jb_fr h hm) → (∀ p, p < 16 → hm (4, 0, 2) p = nI (sp_bv g k p + sp_sum (fun q => if sp_it g (k + 1) (38 + 5 * q) = p then 1 else 0) c)) → jt_T 207 (73, [(5, .inl (nI c)), (0, .inr (.inr (4, 0, 0))), (1, .inl (nI n)), (2, .inl (nI w)), (3, .inl (nI k))], [], hm) (Q)) (fun c hk nx hm Rm Fm Z => by
  have Wk := (jw_it W (k + 1)).1
  have e0 := (jw_it W (k + 1)).2.1
  have bn := jw_n W
  refine jt_go jm_m207 41 5 (f' := (81, [(5, .inl (nI c)), (0, .inr (.inr (4, 0, 0))), (1, .inl (nI n)), (2, .inl (nI w)), (3, .inl (nI k))], [.inl (hm (5, 1, 0) (nI 0).toNatClampNeg), .inl (nI c)], hm)) (P := vp_in (nI 0) 78 ∧ True) rfl ⟨(vp_in_nI (by omega) (by decide)), trivial⟩ ?_
  refine jt_ti (show (hm (5, 1, 0) (nI 0).toNatClampNeg) = nI ((sp_it g (k + 1)) 0) from jg_get Rm (k := 0) (nI_clamp (by omega)) (by omega)) ?_
  have bq1 := jw_n Wk
  refine jt_nicge jm_m207 46 (a := c) (b := (sp_it g (k + 1)) 0) (by omega) (by omega) (tgt := 110) (nxt := 84) rfl rfl rfl (fun c81 => ?_) (fun c81 => ?_)
  · refine jt_pick (L' := [(5, .inl (nI c)), (0, .inr (.inr (4, 0, 0))), (1, .inl (nI n)), (2, .inl (nI w)), (3, .inl (nI k))]) [0, 1, 2, 3, 4] rfl ?_
    have e_ : c = g 0 := by omega
    subst e_
    exact kont hm Rm Fm Z
  · refine jt_go jm_m207 47 6 (f' := (95, [(5, .inl (nI c)), (0, .inr (.inr (4, 0, 0))), (1, .inl (nI n)), (2, .inl (nI w)), (3, .inl (nI k))], [.inl (nI 2), .inl (nI c), .inr (.inr (5, 1, 0)), .inr (.inr (4, 0, 2))], hm)) (P := True) rfl trivial ?_
    refine jt_callp (w := .inl (nI (38 + 5 * c))) jm_m207 53 (mi' := 147) (as := [.inl (nI c), .inl (nI 2)]) (rest := [.inr (.inr (5, 1, 0)), .inr (.inr (4, 0, 2))]) (nxt := 98) rfl rfl jm_m147 rfl rfl (tb_ofC (k := 38 + 5 * c) (by omega)) ?_
    refine jt_go jm_m207 54 1 (f' := (99, [(5, .inl (nI c)), (0, .inr (.inr (4, 0, 0))), (1, .inl (nI n)), (2, .inl (nI w)), (3, .inl (nI k))], [.inl (hm (5, 1, 0) (nI (38 + 5 * c)).toNatClampNeg), .inr (.inr (4, 0, 2))], hm)) (P := vp_in (nI (38 + 5 * c)) 78 ∧ True) rfl ⟨(vp_in_nI (by omega) (by decide)), trivial⟩ ?_
    refine jt_ti (show (hm (5, 1, 0) (nI (38 + 5 * c)).toNatClampNeg) = nI ((sp_it g (k + 1)) (38 + 5 * c)) from jg_get Rm (k := 38 + 5 * c) (nI_clamp (by omega)) (by omega)) ?_
    have bq2 := jw_at Wk (c := c) (by omega)
    refine jt_go jm_m207 55 2 (f' := (101, [(5, .inl (nI c)), (0, .inr (.inr (4, 0, 0))), (1, .inl (nI n)), (2, .inl (nI w)), (3, .inl (nI k))], [.inl (hm (4, 0, 2) (nI ((sp_it g (k + 1)) (38 + 5 * c))).toNatClampNeg), .inl (nI ((sp_it g (k + 1)) (38 + 5 * c))), .inr (.inr (4, 0, 2))], hm)) (P := vp_in (nI ((sp_it g (k + 1)) (38 + 5 * c))) 16 ∧ True) rfl ⟨(vp_in_nI (by omega) (by decide)), trivial⟩ ?_
    refine jt_ti (show (hm (4, 0, 2) (nI ((sp_it g (k + 1)) (38 + 5 * c))).toNatClampNeg) = nI (sp_bv g k ((sp_it g (k + 1)) (38 + 5 * c)) + sp_sum (fun q => if sp_it g (k + 1) (38 + 5 * q) = ((sp_it g (k + 1)) (38 + 5 * c)) then 1 else 0) c) from by rw [nI_clamp (by omega)]; exact Z _ (by omega)) ?_
    refine jt_go jm_m207 57 2 (f' := (103, [(5, .inl (nI c)), (0, .inr (.inr (4, 0, 0))), (1, .inl (nI n)), (2, .inl (nI w)), (3, .inl (nI k))], [.inl ((nI (sp_bv g k ((sp_it g (k + 1)) (38 + 5 * c)) + sp_sum (fun q => if sp_it g (k + 1) (38 + 5 * q) = ((sp_it g (k + 1)) (38 + 5 * c)) then 1 else 0) c)) + (nI 1)), .inl (nI ((sp_it g (k + 1)) (38 + 5 * c))), .inr (.inr (4, 0, 2))], hm)) (P := True) rfl trivial ?_
    refine jt_ti (show ((nI (sp_bv g k ((sp_it g (k + 1)) (38 + 5 * c)) + sp_sum (fun q => if sp_it g (k + 1) (38 + 5 * q) = ((sp_it g (k + 1)) (38 + 5 * c)) then 1 else 0) c)) + (nI 1)) = nI (sp_bv g k ((sp_it g (k + 1)) (38 + 5 * c)) + sp_sum (fun q => if sp_it g (k + 1) (38 + 5 * q) = ((sp_it g (k + 1)) (38 + 5 * c)) then 1 else 0) c + 1) from nI_add _ _) ?_
    refine jt_goM jm_m207 59 1 (pc' := 104) (L' := [(5, .inl (nI c)), (0, .inr (.inr (4, 0, 0))), (1, .inl (nI n)), (2, .inl (nI w)), (3, .inl (nI k))]) (st' := []) (m' := jm_set hm (4, 0, 2) (upd (hm (4, 0, 2)) (nI ((sp_it g (k + 1)) (38 + 5 * c))).toNatClampNeg (nI (sp_bv g k ((sp_it g (k + 1)) (38 + 5 * c)) + sp_sum (fun q => if sp_it g (k + 1) (38 + 5 * q) = ((sp_it g (k + 1)) (38 + 5 * c)) then 1 else 0) c + 1)))) (P := vp_in (nI ((sp_it g (k + 1)) (38 + 5 * c))) 16 ∧ True) rfl ⟨(vp_in_nI (by omega) (by decide)), trivial⟩ (fun h1 eh1 => ?_)
    refine jt_inc jm_m207 60 (c := c) (L' := [(5, .inl (nI (c + 1))), (0, .inr (.inr (4, 0, 0))), (1, .inl (nI n)), (2, .inl (nI w)), (3, .inl (nI k))]) rfl rfl rfl rfl ?_
    refine jt_go jm_m207 61 1 (f' := (73, [(5, .inl (nI (c + 1))), (0, .inr (.inr (4, 0, 0))), (1, .inl (nI n)), (2, .inl (nI w)), (3, .inl (nI k))], [], h1)) (P := True) rfl trivial ?_
    refine jt_pick (L' := [(5, .inl (nI (c + 1))), (0, .inr (.inr (4, 0, 0))), (1, .inl (nI n)), (2, .inl (nI w)), (3, .inl (nI k))]) [0, 1, 2, 3, 4] rfl ?_
    have a3 : ∀ q : jm_K, q ≠ (4, 0, 2) → h1 q = hm q := fun q hq => by rw [eh1]; exact jm_set_ne hq
    refine nx (by omega) h1 (jg_mv3 Rm a3) (jb_tr Fm (jb_of3 a3)) (fun p hp => ?_)
    rw [eh1, jm_set_eq, nI_clamp (by omega)]
    show _ = nI (sp_bv g k p + (sp_sum _ c + if (sp_it g (k + 1) (38 + 5 * c)) = p then 1 else 0))
    by_cases q : p = (sp_it g (k + 1) (38 + 5 * c))
    · rw [← q, jx_eq, if_pos rfl]; exact congrArg nI (by omega)
    · rw [jx_ne q, Z p hp, if_neg (fun z => q z.symm)]; rfl)
set_option maxHeartbeats 4000000 in
set_option maxRecDepth 20000 in
theorem cb_vis_o {h : jm_M} {g : Nat → Nat} (W : jw g) {n w : Nat} (hn : n ≤ 99) (hw : w ≤ 1) : ∀ k, k ≤ n → ∀ hm : jm_M, (jg_rel hm 1 (sp_it g k)) → (jb_fr h hm) → (∀ p, p < 16 → hm (4, 0, 2) p = nI (sp_bv g k p)) → jt_T 207 (55, [(3, .inl (nI k)), (0, .inr (.inr (4, 0, 0))), (1, .inl (nI n)), (2, .inl (nI w))], [], hm) (fun u h' => u = some (.inl (if w = 0 then nI (sp_arg (sp_bv g n) 16) else nI (sp_bv g n (sp_arg (sp_bv g n) 16)))) ∧ jb_fr h h') := jx_up (P := fun k => ∀ hm : jm_M, (jg_rel hm 1 (sp_it g k)) → (jb_fr h hm) → (∀ p, p < 16 → hm (4, 0, 2) p = nI (sp_bv g k p)) → jt_T 207 (55, [(3, .inl (nI k)), (0, .inr (.inr (4, 0, 0))), (1, .inl (nI n)), (2, .inl (nI w))], [], hm) (fun u h' => u = some (.inl (if w = 0 then nI (sp_arg (sp_bv g n) 16) else nI (sp_bv g n (sp_arg (sp_bv g n) 16)))) ∧ jb_fr h h')) (fun k hk nx hm Rm Fm Z => by
  have Wk := (jw_it W k).1
  refine jt_go jm_m207 31 2 (f' := (57, [(3, .inl (nI k)), (0, .inr (.inr (4, 0, 0))), (1, .inl (nI n)), (2, .inl (nI w))], [.inl (nI n), .inl (nI k)], hm)) (P := True) rfl trivial ?_
  refine jt_nicge jm_m207 33 (a := k) (b := n) (by omega) (by omega) (tgt := 116) (nxt := 60) rfl rfl rfl (fun c57 => ?_) (fun c57 => ?_)
  · refine jt_go jm_m207 64 4 (f' := (121, [(4, .inl (nI 0)), (3, .inl (nI 0)), (0, .inr (.inr (4, 0, 0))), (1, .inl (nI n)), (2, .inl (nI w))], [], hm)) (P := True) rfl trivial ?_
    refine jt_pick (L' := [(0, .inr (.inr (4, 0, 0))), (1, .inl (nI n)), (2, .inl (nI w)), (3, .inl (nI 0)), (4, .inl (nI 0))]) [2, 3, 4, 1, 0] rfl ?_
    have e_ : k = n := by omega
    subst e_
    exact jt_mono (cb_bus_l Z (fun p => by have := sp_bv_le W p k; omega) (n := k) (w := w) hw 0 (Nat.zero_le _)) (fun u h9 zz => ⟨zz.1, by rw [zz.2]; exact Fm⟩)
  · refine jt_go jm_m207 34 3 (f' := (65, [(3, .inl (nI k)), (0, .inr (.inr (4, 0, 0))), (1, .inl (nI n)), (2, .inl (nI w))], [.inl (nI 0), .inr (.inr (5, 1, 0))], hm)) (P := True) rfl trivial ?_
    refine jt_call jm_m207 37 (mi' := 163) (as := [.inr (.inr (5, 1, 0)), .inl (nI 0)]) (rest := []) (nxt := 68) rfl rfl jm_m163 rfl rfl (tb_hour0 Rm Wk) ?_
    rintro u h1 ⟨rfl, Rh1, Fh1⟩
    show jt_T 207 (68, [(3, .inl (nI k)), (0, .inr (.inr (4, 0, 0))), (1, .inl (nI n)), (2, .inl (nI w))], [.inl (nI (sp_set (sp_it g k) false))], h1) _
    have Rh1 : jg_rel h1 1 (sp_it g (k + 1)) := Rh1
    have Wh1 := (jw_it W (k + 1)).1
    have uh1 := sp_set_lt Wk (kept := false)
    refine jt_go jm_m207 38 3 (f' := (73, [(5, .inl (nI 0)), (4, .inl (nI (sp_set (sp_it g k) false))), (3, .inl (nI k)), (0, .inr (.inr (4, 0, 0))), (1, .inl (nI n)), (2, .inl (nI w))], [], h1)) (P := True) rfl trivial ?_
    refine jt_pick (L' := [(5, .inl (nI 0)), (0, .inr (.inr (4, 0, 0))), (1, .inl (nI n)), (2, .inl (nI w)), (3, .inl (nI k))]) [0, 3, 4, 5, 2] rfl ?_
    have kont : ∀ h2 : jm_M, jg_rel h2 1 (sp_it g (k + 1)) → jb_fr h h2 → (∀ p, p < 16 → h2 (4, 0, 2) p = nI (sp_bv g (k + 1) p)) → jt_T 207 (110, [(5, .inl (nI (g 0))), (0, .inr (.inr (4, 0, 0))), (1, .inl (nI n)), (2, .inl (nI w)), (3, .inl (nI k))], [], h2) (fun u h' => u = some (.inl (if w = 0 then nI (sp_arg (sp_bv g n) 16) else nI (sp_bv g n (sp_arg (sp_bv g n) 16)))) ∧ jb_fr h h') := by
      intro h2 R2 F2 Z2
      refine jt_inc jm_m207 62 (c := k) (L' := [(3, .inl (nI (k + 1))), (5, .inl (nI (g 0))), (0, .inr (.inr (4, 0, 0))), (1, .inl (nI n)), (2, .inl (nI w))]) rfl rfl rfl rfl ?_
      refine jt_go jm_m207 63 1 (f' := (55, [(3, .inl (nI (k + 1))), (5, .inl (nI (g 0))), (0, .inr (.inr (4, 0, 0))), (1, .inl (nI n)), (2, .inl (nI w))], [], h2)) (P := True) rfl trivial ?_
      refine jt_pick (L' := [(3, .inl (nI (k + 1))), (0, .inr (.inr (4, 0, 0))), (1, .inl (nI n)), (2, .inl (nI w))]) [0, 2, 3, 4] rfl ?_
      exact nx (by omega) h2 R2 F2 Z2
    refine cb_vis_i W hn (by omega) kont 0 (Nat.zero_le _) h1 Rh1 (jb_tr Fm (jb_of Fh1)) (fun p hp => ?_)
    rw [Fh1 (4, 0, 2) (by decide)]
    exact Z p hp)
set_option maxHeartbeats 4000000 in
set_option maxRecDepth 20000 in
theorem cb_fill {h : jm_M} {g : Nat → Nat} (R : jg_rel h 0 g) (W : jw g) {n w : Nat} (hn : n ≤ 99) (hw : w ≤ 1) : ∀ k, k ≤ 16 → ∀ hm : jm_M, (∀ q : jm_K, q ≠ (4, 0, 2) → hm q = h q) → (∀ i, i < k → hm (4, 0, 2) i = nI 0) → jt_T 207 (23, [(3, .inl (nI k)), (0, .inr (.inr (4, 0, 0))), (1, .inl (nI n)), (2, .inl (nI w))], [], hm) (fun u h' => u = some (.inl (if w = 0 then nI (sp_arg (sp_bv g n) 16) else nI (sp_bv g n (sp_arg (sp_bv g n) 16)))) ∧ jb_fr h h') := jx_up (P := fun k => ∀ hm : jm_M, (∀ q : jm_K, q ≠ (4, 0, 2) → hm q = h q) → (∀ i, i < k → hm (4, 0, 2) i = nI 0) → jt_T 207 (23, [(3, .inl (nI k)), (0, .inr (.inr (4, 0, 0))), (1, .inl (nI n)), (2, .inl (nI w))], [], hm) (fun u h' => u = some (.inl (if w = 0 then nI (sp_arg (sp_bv g n) 16) else nI (sp_bv g n (sp_arg (sp_bv g n) 16)))) ∧ jb_fr h h')) (fun k hk nx hm F Z => by
  refine jt_go jm_m207 14 2 (f' := (26, [(3, .inl (nI k)), (0, .inr (.inr (4, 0, 0))), (1, .inl (nI n)), (2, .inl (nI w))], [.inl (nI 16), .inl (nI k)], hm)) (P := True) rfl trivial ?_
  refine jt_nicge jm_m207 16 (a := k) (b := 16) (by omega) (by omega) (tgt := 42) (nxt := 29) rfl rfl rfl (fun c26 => ?_) (fun c26 => ?_)
  · refine jt_go jm_m207 24 4 (f' := (50, [(3, .inl (nI k)), (0, .inr (.inr (4, 0, 0))), (1, .inl (nI n)), (2, .inl (nI w))], [.inr (.inr (5, 1, 0)), .inr (.inr (5, 0, 0))], hm)) (P := True) rfl trivial ?_
    refine jt_call jm_m207 28 (mi' := 146) (as := [.inr (.inr (5, 0, 0)), .inr (.inr (5, 1, 0))]) (rest := []) (nxt := 53) rfl rfl jm_m146 rfl rfl (tb_copies (jg_mv3 R F) (by decide)) ?_
    rintro u h1 ⟨rfl, Rh1, Fh1⟩
    show jt_T 207 (53, [(3, .inl (nI k)), (0, .inr (.inr (4, 0, 0))), (1, .inl (nI n)), (2, .inl (nI w))], [], h1) _
    refine jt_go jm_m207 29 2 (f' := (55, [(3, .inl (nI 0)), (0, .inr (.inr (4, 0, 0))), (1, .inl (nI n)), (2, .inl (nI w))], [], h1)) (P := True) rfl trivial ?_
    refine jt_pick (L' := [(3, .inl (nI 0)), (0, .inr (.inr (4, 0, 0))), (1, .inl (nI n)), (2, .inl (nI w))]) [0, 1, 2, 3] rfl ?_
    have e_ : k = 16 := by omega
    subst e_
    exact cb_vis_o W hn hw 0 (Nat.zero_le _) h1 Rh1 (jb_tr (jb_of3 F) (jb_of Fh1)) (fun p hp => by rw [Fh1 (4, 0, 2) (by decide)]; exact Z p hp)
  · refine jt_goM jm_m207 17 5 (pc' := 36) (L' := [(3, .inl (nI k)), (0, .inr (.inr (4, 0, 0))), (1, .inl (nI n)), (2, .inl (nI w))]) (st' := []) (m' := jm_set hm (4, 0, 2) (upd (hm (4, 0, 2)) (nI k).toNatClampNeg (nI 0))) (P := vp_in (nI k) 16 ∧ True) rfl ⟨(vp_in_nI (by omega) (by decide)), trivial⟩ (fun h2 eh2 => ?_)
    refine jt_inc jm_m207 22 (c := k) (L' := [(3, .inl (nI (k + 1))), (0, .inr (.inr (4, 0, 0))), (1, .inl (nI n)), (2, .inl (nI w))]) rfl rfl rfl rfl ?_
    refine jt_go jm_m207 23 1 (f' := (23, [(3, .inl (nI (k + 1))), (0, .inr (.inr (4, 0, 0))), (1, .inl (nI n)), (2, .inl (nI w))], [], h2)) (P := True) rfl trivial ?_
    refine jt_pick (L' := [(3, .inl (nI (k + 1))), (0, .inr (.inr (4, 0, 0))), (1, .inl (nI n)), (2, .inl (nI w))]) [0, 1, 2, 3] rfl ?_
    exact nx (by omega) h2 (fun q hq => by rw [eh2, jm_set_ne hq]; exact F q hq) (fun i hi => by
      rw [eh2, jm_set_eq, nI_clamp (by omega)]
      by_cases q : i = k
      · rw [q, jx_eq]
      · rw [jx_ne q]; exact Z i (by omega)))
set_option maxHeartbeats 4000000 in
set_option maxRecDepth 20000 in
theorem cb_busiest {h : jm_M} {g : Nat → Nat} (R : jg_rel h 0 g) (W : jw g) {x y : Int32} : jt_T 207 (0, [(0, .inr (.inr (4, 0, 0))), (1, .inl (x)), (2, .inl (y))], [], h) (fun u h' => u = some (.inl (za_busiest g x y)) ∧ jb_fr h h') := by
  have bn := jw_n W
  have bm := jw_m W
  have bt := jw_t W
  refine jt_go jm_m207 0 3 (f' := (4, [(0, .inr (.inr (4, 0, 0))), (1, .inl (x)), (2, .inl (y))], [.inl (nI 99), .inl (nI 0), .inl (x)], h)) (P := True) rfl trivial ?_
  refine jt_callp (w := .inl (jm_b (nI 0 ≤ x ∧ x ≤ nI 99))) jm_m207 3 (mi' := 143) (as := [.inl (x), .inl (nI 0), .inl (nI 99)]) (rest := []) (nxt := 7) rfl rfl jm_m143 rfl rfl (tb_isIn) ?_
  refine jt_ifbeq jm_m207 4 (tgt := 19) (nxt := 10) rfl rfl rfl (fun c7 => ?_) (fun c7 => ?_)
  · refine jt_go jm_m207 10 1 (f' := (20, [(0, .inr (.inr (4, 0, 0))), (1, .inl (x)), (2, .inl (y))], [.inl ((-1))], h)) (P := True) rfl trivial ?_
    refine jt_iret jm_m207 11 rfl ?_
    exact ⟨jt_li (if_neg (fun z => c7 z.1)).symm, jb_rf⟩
  · obtain ⟨n, hbn, rfl⟩ := jx_win (by decide) c7
    refine jt_go jm_m207 5 3 (f' := (13, [(0, .inr (.inr (4, 0, 0))), (1, .inl (nI n)), (2, .inl (y))], [.inl (nI 1), .inl (nI 0), .inl (y)], h)) (P := True) rfl trivial ?_
    refine jt_callp (w := .inl (jm_b (nI 0 ≤ y ∧ y ≤ nI 1))) jm_m207 8 (mi' := 143) (as := [.inl (y), .inl (nI 0), .inl (nI 1)]) (rest := []) (nxt := 16) rfl rfl jm_m143 rfl rfl (tb_isIn) ?_
    refine jt_ifbne jm_m207 9 (tgt := 21) (nxt := 19) rfl rfl rfl (fun c16 => ?_) (fun c16 => ?_)
    · obtain ⟨w, hbw, rfl⟩ := jx_win (by decide) c16
      refine jt_go jm_m207 12 2 (f' := (23, [(3, .inl (nI 0)), (0, .inr (.inr (4, 0, 0))), (1, .inl (nI n)), (2, .inl (nI w))], [], h)) (P := True) rfl trivial ?_
      refine jt_pick (L' := [(3, .inl (nI 0)), (0, .inr (.inr (4, 0, 0))), (1, .inl (nI n)), (2, .inl (nI w))]) [0, 1, 2, 3] rfl ?_
      refine jt_mono (cb_fill R W (n := n) (w := w) (by omega) (by omega) 0 (Nat.zero_le _) h (fun _ _ => rfl) (fun i hi => absurd hi (Nat.not_lt_zero i))) (fun u h9 zz => ?_)
      obtain ⟨z1, z2⟩ := zz
      refine ⟨z1.trans (jt_li ?_), z2⟩
      refine Eq.trans ?_ (if_pos ⟨c7, c16⟩).symm
      rw [nI_clamp (n := n) (by omega), nI_clamp (n := w) (by omega)]
      rfl
    · refine jt_go jm_m207 10 1 (f' := (20, [(0, .inr (.inr (4, 0, 0))), (1, .inl (nI n)), (2, .inl (y))], [.inl ((-1))], h)) (P := True) rfl trivial ?_
      refine jt_iret jm_m207 11 rfl ?_
      exact ⟨jt_li (if_neg (fun z => c16 z.2)).symm, jb_rf⟩
