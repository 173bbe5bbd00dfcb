/-! BOTH: hours on, copies, counts. -/
set_option maxRecDepth 100000 in
theorem jx_bit7 : ∀ P, P < 128 → ∀ p, p < 16 → (nI P >>> (nI p &&& 31)) &&& nI 1 = nI (P / 2 ^ p % 2) := by decide +kernel
def sp_cnt (S : Nat) : Nat := sp_sum (fun k => S / 2 ^ k % 2) 16
set_option maxRecDepth 100000 in
theorem sp_cnt_le : ∀ P, P < 128 → sp_cnt P ≤ 7 := by decide +kernel
set_option maxHeartbeats 4000000 in
set_option maxRecDepth 20000 in
theorem tb_bits_l {h : jm_M} {S : Nat} (hS : S < 128) : ∀ k, k ≤ 16 → jt_T 153 (4, [(0, .inl (nI S)), (1, .inl (nI (sp_sum (fun k => S / 2 ^ k % 2) k))), (2, .inl (nI k))], [], h) (fun u h' => u = some (.inl (nI (sp_cnt S))) ∧ h' = h) := jx_up (fun k hk nx => by
  refine jt_go jm_m153 4 2 (f' := (7, [(0, .inl (nI S)), (1, .inl (nI (sp_sum (fun k => S / 2 ^ k % 2) k))), (2, .inl (nI k))], [.inl (nI 16), .inl (nI k)], h)) (P := True) rfl trivial ?_
  refine jt_nicge jm_m153 6 (a := k) (b := 16) (by omega) (by omega) (tgt := 24) (nxt := 10) rfl rfl rfl (fun c7 => ?_) (fun c7 => ?_)
  · refine jt_go jm_m153 17 1 (f' := (25, [(0, .inl (nI S)), (1, .inl (nI (sp_sum (fun k => S / 2 ^ k % 2) k))), (2, .inl (nI k))], [.inl (nI (sp_sum (fun k => S / 2 ^ k % 2) k))], h)) (P := True) rfl trivial ?_
    refine jt_iret jm_m153 18 rfl ?_
    have e : k = 16 := by omega
    subst e
    exact ⟨rfl, rfl⟩
  · refine jt_go jm_m153 7 6 (f' := (16, [(0, .inl (nI S)), (1, .inl (nI (sp_sum (fun k => S / 2 ^ k % 2) k))), (2, .inl (nI k))], [.inl (((nI S) >>> ((nI k) &&& 31)) &&& (nI 1)), .inl (nI (sp_sum (fun k => S / 2 ^ k % 2) k))], h)) (P := True) rfl trivial ?_
    refine jt_ti (show (((nI S) >>> ((nI k) &&& 31)) &&& (nI 1)) = nI (S / 2 ^ k % 2) from jx_bit7 _ hS _ (by omega)) ?_
    refine jt_go jm_m153 13 1 (f' := (17, [(0, .inl (nI S)), (1, .inl (nI (sp_sum (fun k => S / 2 ^ k % 2) k))), (2, .inl (nI k))], [.inl ((nI (sp_sum (fun k => S / 2 ^ k % 2) k)) + (nI (S / 2 ^ k % 2)))], h)) (P := True) rfl trivial ?_
    refine jt_ti (show ((nI (sp_sum (fun k => S / 2 ^ k % 2) k)) + (nI (S / 2 ^ k % 2))) = nI (sp_sum (fun k => S / 2 ^ k % 2) k + S / 2 ^ k % 2) from nI_add _ _) ?_
    refine jt_go jm_m153 14 1 (f' := (18, [(1, .inl (nI (sp_sum (fun k => S / 2 ^ k % 2) k + S / 2 ^ k % 2))), (0, .inl (nI S)), (2, .inl (nI k))], [], h)) (P := True) rfl trivial ?_
    refine jt_inc jm_m153 15 (c := k) (L' := [(2, .inl (nI (k + 1))), (1, .inl (nI (sp_sum (fun k => S / 2 ^ k % 2) k + S / 2 ^ k % 2))), (0, .inl (nI S))]) rfl rfl rfl rfl ?_
    refine jt_go jm_m153 16 1 (f' := (4, [(2, .inl (nI (k + 1))), (1, .inl (nI (sp_sum (fun k => S / 2 ^ k % 2) k + S / 2 ^ k % 2))), (0, .inl (nI S))], [], h)) (P := True) rfl trivial ?_
    refine jt_pick (L' := [(0, .inl (nI S)), (1, .inl (nI (sp_sum (fun k => S / 2 ^ k % 2) k + S / 2 ^ k % 2))), (2, .inl (nI (k + 1)))]) [2, 1, 0] rfl ?_
    exact nx c7)
set_option maxHeartbeats 4000000 in
set_option maxRecDepth 20000 in
theorem tb_bits {h : jm_M} {S : Nat} (hS : S < 128) : jt_Pu 153 [.inl (nI S)] h (.inl (nI (sp_cnt S))) := by
  show jt_T 153 (0, [(0, .inl (nI S))], [], h) _
  refine jt_go jm_m153 0 4 (f' := (4, [(2, .inl (nI 0)), (1, .inl (nI 0)), (0, .inl (nI S))], [], h)) (P := True) rfl trivial ?_
  refine jt_pick (L' := [(0, .inl (nI S)), (1, .inl (nI 0)), (2, .inl (nI 0))]) [2, 1, 0] rfl ?_
  exact tb_bits_l hS 0 (Nat.zero_le _)
set_option maxHeartbeats 4000000 in
set_option maxRecDepth 20000 in
theorem tb_has {h : jm_M} {S p : Nat} (hS : S < 128) (hp : p < 16) : jt_Pu 152 [.inl (nI S), .inl (nI p)] h (.inl (jm_b (S / 2 ^ p % 2 = 1))) := by
  show jt_T 152 (0, [(0, .inl (nI S)), (1, .inl (nI p))], [], h) _
  refine jt_go jm_m152 0 5 (f' := (5, [(0, .inl (nI S)), (1, .inl (nI p))], [.inl (((nI S) >>> ((nI p) &&& 31)) &&& (nI 1))], h)) (P := True) rfl trivial ?_
  refine jt_ti (show (((nI S) >>> ((nI p) &&& 31)) &&& (nI 1)) = nI (S / 2 ^ p % 2) from jx_bit7 _ hS _ hp) ?_
  refine jt_go jm_m152 5 1 (f' := (6, [(0, .inl (nI S)), (1, .inl (nI p))], [.inl (nI 1), .inl (nI (S / 2 ^ p % 2))], h)) (P := True) rfl trivial ?_
  refine jt_nicne jm_m152 6 (a := S / 2 ^ p % 2) (b := 1) (by omega) (by omega) (tgt := 13) (nxt := 9) rfl rfl rfl (fun c6 => ?_) (fun c6 => ?_)
  · refine jt_go jm_m152 9 1 (f' := (14, [(0, .inl (nI S)), (1, .inl (nI p))], [.inl (nI 0)], h)) (P := True) rfl trivial ?_
    refine jt_zret jm_m152 10 rfl (Or.inl rfl) ?_
    exact ⟨jt_lb0 (c6), rfl⟩
  · refine jt_go jm_m152 7 2 (f' := (14, [(0, .inl (nI S)), (1, .inl (nI p))], [.inl (nI 1)], h)) (P := True) rfl trivial ?_
    refine jt_zret jm_m152 10 rfl (Or.inr rfl) ?_
    exact ⟨jt_lb1 (c6), rfl⟩
set_option maxRecDepth 100000 in
theorem jx_bc : ∀ S, S < 128 → (((((((((nI S) - ((((nI S).toUInt32 >>> ((nI 1).toUInt32 &&& Int32.toUInt32 31)).toInt32) &&& (nI 1431655765))) &&& (nI 858993459)) + (((((nI S) - ((((nI S).toUInt32 >>> ((nI 1).toUInt32 &&& Int32.toUInt32 31)).toInt32) &&& (nI 1431655765))).toUInt32 >>> ((nI 2).toUInt32 &&& Int32.toUInt32 31)).toInt32) &&& (nI 858993459))) + ((((((nI S) - ((((nI S).toUInt32 >>> ((nI 1).toUInt32 &&& Int32.toUInt32 31)).toInt32) &&& (nI 1431655765))) &&& (nI 858993459)) + (((((nI S) - ((((nI S).toUInt32 >>> ((nI 1).toUInt32 &&& Int32.toUInt32 31)).toInt32) &&& (nI 1431655765))).toUInt32 >>> ((nI 2).toUInt32 &&& Int32.toUInt32 31)).toInt32) &&& (nI 858993459))).toUInt32 >>> ((nI 4).toUInt32 &&& Int32.toUInt32 31)).toInt32)) &&& (nI 252645135)) + ((((((((nI S) - ((((nI S).toUInt32 >>> ((nI 1).toUInt32 &&& Int32.toUInt32 31)).toInt32) &&& (nI 1431655765))) &&& (nI 858993459)) + (((((nI S) - ((((nI S).toUInt32 >>> ((nI 1).toUInt32 &&& Int32.toUInt32 31)).toInt32) &&& (nI 1431655765))).toUInt32 >>> ((nI 2).toUInt32 &&& Int32.toUInt32 31)).toInt32) &&& (nI 858993459))) + ((((((nI S) - ((((nI S).toUInt32 >>> ((nI 1).toUInt32 &&& Int32.toUInt32 31)).toInt32) &&& (nI 1431655765))) &&& (nI 858993459)) + (((((nI S) - ((((nI S).toUInt32 >>> ((nI 1).toUInt32 &&& Int32.toUInt32 31)).toInt32) &&& (nI 1431655765))).toUInt32 >>> ((nI 2).toUInt32 &&& Int32.toUInt32 31)).toInt32) &&& (nI 858993459))).toUInt32 >>> ((nI 4).toUInt32 &&& Int32.toUInt32 31)).toInt32)) &&& (nI 252645135)).toUInt32 >>> ((nI 8).toUInt32 &&& Int32.toUInt32 31)).toInt32)) + (((((((((nI S) - ((((nI S).toUInt32 >>> ((nI 1).toUInt32 &&& Int32.toUInt32 31)).toInt32) &&& (nI 1431655765))) &&& (nI 858993459)) + (((((nI S) - ((((nI S).toUInt32 >>> ((nI 1).toUInt32 &&& Int32.toUInt32 31)).toInt32) &&& (nI 1431655765))).toUInt32 >>> ((nI 2).toUInt32 &&& Int32.toUInt32 31)).toInt32) &&& (nI 858993459))) + ((((((nI S) - ((((nI S).toUInt32 >>> ((nI 1).toUInt32 &&& Int32.toUInt32 31)).toInt32) &&& (nI 1431655765))) &&& (nI 858993459)) + (((((nI S) - ((((nI S).toUInt32 >>> ((nI 1).toUInt32 &&& Int32.toUInt32 31)).toInt32) &&& (nI 1431655765))).toUInt32 >>> ((nI 2).toUInt32 &&& Int32.toUInt32 31)).toInt32) &&& (nI 858993459))).toUInt32 >>> ((nI 4).toUInt32 &&& Int32.toUInt32 31)).toInt32)) &&& (nI 252645135)) + ((((((((nI S) - ((((nI S).toUInt32 >>> ((nI 1).toUInt32 &&& Int32.toUInt32 31)).toInt32) &&& (nI 1431655765))) &&& (nI 858993459)) + (((((nI S) - ((((nI S).toUInt32 >>> ((nI 1).toUInt32 &&& Int32.toUInt32 31)).toInt32) &&& (nI 1431655765))).toUInt32 >>> ((nI 2).toUInt32 &&& Int32.toUInt32 31)).toInt32) &&& (nI 858993459))) + ((((((nI S) - ((((nI S).toUInt32 >>> ((nI 1).toUInt32 &&& Int32.toUInt32 31)).toInt32) &&& (nI 1431655765))) &&& (nI 858993459)) + (((((nI S) - ((((nI S).toUInt32 >>> ((nI 1).toUInt32 &&& Int32.toUInt32 31)).toInt32) &&& (nI 1431655765))).toUInt32 >>> ((nI 2).toUInt32 &&& Int32.toUInt32 31)).toInt32) &&& (nI 858993459))).toUInt32 >>> ((nI 4).toUInt32 &&& Int32.toUInt32 31)).toInt32)) &&& (nI 252645135)).toUInt32 >>> ((nI 8).toUInt32 &&& Int32.toUInt32 31)).toInt32)).toUInt32 >>> ((nI 16).toUInt32 &&& Int32.toUInt32 31)).toInt32)) &&& (nI 63)) = nI (sp_cnt S) := by decide +kernel
set_option maxHeartbeats 4000000 in
set_option maxRecDepth 20000 in
theorem tj_bits {h : jm_M} {S : Nat} (hS : S < 128) : jt_Pu 238 [.inl (nI S)] h (.inl (nI (sp_cnt S))) := by
  show jt_T 238 (0, [(0, .inl (nI S))], [], h) _
  refine jt_go jm_m238 0 41 (f' := (52, [(0, .inl ((((((((nI S) - ((((nI S).toUInt32 >>> ((nI 1).toUInt32 &&& Int32.toUInt32 31)).toInt32) &&& (nI 1431655765))) &&& (nI 858993459)) + (((((nI S) - ((((nI S).toUInt32 >>> ((nI 1).toUInt32 &&& Int32.toUInt32 31)).toInt32) &&& (nI 1431655765))).toUInt32 >>> ((nI 2).toUInt32 &&& Int32.toUInt32 31)).toInt32) &&& (nI 858993459))) + ((((((nI S) - ((((nI S).toUInt32 >>> ((nI 1).toUInt32 &&& Int32.toUInt32 31)).toInt32) &&& (nI 1431655765))) &&& (nI 858993459)) + (((((nI S) - ((((nI S).toUInt32 >>> ((nI 1).toUInt32 &&& Int32.toUInt32 31)).toInt32) &&& (nI 1431655765))).toUInt32 >>> ((nI 2).toUInt32 &&& Int32.toUInt32 31)).toInt32) &&& (nI 858993459))).toUInt32 >>> ((nI 4).toUInt32 &&& Int32.toUInt32 31)).toInt32)) &&& (nI 252645135)) + ((((((((nI S) - ((((nI S).toUInt32 >>> ((nI 1).toUInt32 &&& Int32.toUInt32 31)).toInt32) &&& (nI 1431655765))) &&& (nI 858993459)) + (((((nI S) - ((((nI S).toUInt32 >>> ((nI 1).toUInt32 &&& Int32.toUInt32 31)).toInt32) &&& (nI 1431655765))).toUInt32 >>> ((nI 2).toUInt32 &&& Int32.toUInt32 31)).toInt32) &&& (nI 858993459))) + ((((((nI S) - ((((nI S).toUInt32 >>> ((nI 1).toUInt32 &&& Int32.toUInt32 31)).toInt32) &&& (nI 1431655765))) &&& (nI 858993459)) + (((((nI S) - ((((nI S).toUInt32 >>> ((nI 1).toUInt32 &&& Int32.toUInt32 31)).toInt32) &&& (nI 1431655765))).toUInt32 >>> ((nI 2).toUInt32 &&& Int32.toUInt32 31)).toInt32) &&& (nI 858993459))).toUInt32 >>> ((nI 4).toUInt32 &&& Int32.toUInt32 31)).toInt32)) &&& (nI 252645135)).toUInt32 >>> ((nI 8).toUInt32 &&& Int32.toUInt32 31)).toInt32)) + (((((((((nI S) - ((((nI S).toUInt32 >>> ((nI 1).toUInt32 &&& Int32.toUInt32 31)).toInt32) &&& (nI 1431655765))) &&& (nI 858993459)) + (((((nI S) - ((((nI S).toUInt32 >>> ((nI 1).toUInt32 &&& Int32.toUInt32 31)).toInt32) &&& (nI 1431655765))).toUInt32 >>> ((nI 2).toUInt32 &&& Int32.toUInt32 31)).toInt32) &&& (nI 858993459))) + ((((((nI S) - ((((nI S).toUInt32 >>> ((nI 1).toUInt32 &&& Int32.toUInt32 31)).toInt32) &&& (nI 1431655765))) &&& (nI 858993459)) + (((((nI S) - ((((nI S).toUInt32 >>> ((nI 1).toUInt32 &&& Int32.toUInt32 31)).toInt32) &&& (nI 1431655765))).toUInt32 >>> ((nI 2).toUInt32 &&& Int32.toUInt32 31)).toInt32) &&& (nI 858993459))).toUInt32 >>> ((nI 4).toUInt32 &&& Int32.toUInt32 31)).toInt32)) &&& (nI 252645135)) + ((((((((nI S) - ((((nI S).toUInt32 >>> ((nI 1).toUInt32 &&& Int32.toUInt32 31)).toInt32) &&& (nI 1431655765))) &&& (nI 858993459)) + (((((nI S) - ((((nI S).toUInt32 >>> ((nI 1).toUInt32 &&& Int32.toUInt32 31)).toInt32) &&& (nI 1431655765))).toUInt32 >>> ((nI 2).toUInt32 &&& Int32.toUInt32 31)).toInt32) &&& (nI 858993459))) + ((((((nI S) - ((((nI S).toUInt32 >>> ((nI 1).toUInt32 &&& Int32.toUInt32 31)).toInt32) &&& (nI 1431655765))) &&& (nI 858993459)) + (((((nI S) - ((((nI S).toUInt32 >>> ((nI 1).toUInt32 &&& Int32.toUInt32 31)).toInt32) &&& (nI 1431655765))).toUInt32 >>> ((nI 2).toUInt32 &&& Int32.toUInt32 31)).toInt32) &&& (nI 858993459))).toUInt32 >>> ((nI 4).toUInt32 &&& Int32.toUInt32 31)).toInt32)) &&& (nI 252645135)).toUInt32 >>> ((nI 8).toUInt32 &&& Int32.toUInt32 31)).toInt32)).toUInt32 >>> ((nI 16).toUInt32 &&& Int32.toUInt32 31)).toInt32)))], [.inl (((((((((nI S) - ((((nI S).toUInt32 >>> ((nI 1).toUInt32 &&& Int32.toUInt32 31)).toInt32) &&& (nI 1431655765))) &&& (nI 858993459)) + (((((nI S) - ((((nI S).toUInt32 >>> ((nI 1).toUInt32 &&& Int32.toUInt32 31)).toInt32) &&& (nI 1431655765))).toUInt32 >>> ((nI 2).toUInt32 &&& Int32.toUInt32 31)).toInt32) &&& (nI 858993459))) + ((((((nI S) - ((((nI S).toUInt32 >>> ((nI 1).toUInt32 &&& Int32.toUInt32 31)).toInt32) &&& (nI 1431655765))) &&& (nI 858993459)) + (((((nI S) - ((((nI S).toUInt32 >>> ((nI 1).toUInt32 &&& Int32.toUInt32 31)).toInt32) &&& (nI 1431655765))).toUInt32 >>> ((nI 2).toUInt32 &&& Int32.toUInt32 31)).toInt32) &&& (nI 858993459))).toUInt32 >>> ((nI 4).toUInt32 &&& Int32.toUInt32 31)).toInt32)) &&& (nI 252645135)) + ((((((((nI S) - ((((nI S).toUInt32 >>> ((nI 1).toUInt32 &&& Int32.toUInt32 31)).toInt32) &&& (nI 1431655765))) &&& (nI 858993459)) + (((((nI S) - ((((nI S).toUInt32 >>> ((nI 1).toUInt32 &&& Int32.toUInt32 31)).toInt32) &&& (nI 1431655765))).toUInt32 >>> ((nI 2).toUInt32 &&& Int32.toUInt32 31)).toInt32) &&& (nI 858993459))) + ((((((nI S) - ((((nI S).toUInt32 >>> ((nI 1).toUInt32 &&& Int32.toUInt32 31)).toInt32) &&& (nI 1431655765))) &&& (nI 858993459)) + (((((nI S) - ((((nI S).toUInt32 >>> ((nI 1).toUInt32 &&& Int32.toUInt32 31)).toInt32) &&& (nI 1431655765))).toUInt32 >>> ((nI 2).toUInt32 &&& Int32.toUInt32 31)).toInt32) &&& (nI 858993459))).toUInt32 >>> ((nI 4).toUInt32 &&& Int32.toUInt32 31)).toInt32)) &&& (nI 252645135)).toUInt32 >>> ((nI 8).toUInt32 &&& Int32.toUInt32 31)).toInt32)) + (((((((((nI S) - ((((nI S).toUInt32 >>> ((nI 1).toUInt32 &&& Int32.toUInt32 31)).toInt32) &&& (nI 1431655765))) &&& (nI 858993459)) + (((((nI S) - ((((nI S).toUInt32 >>> ((nI 1).toUInt32 &&& Int32.toUInt32 31)).toInt32) &&& (nI 1431655765))).toUInt32 >>> ((nI 2).toUInt32 &&& Int32.toUInt32 31)).toInt32) &&& (nI 858993459))) + ((((((nI S) - ((((nI S).toUInt32 >>> ((nI 1).toUInt32 &&& Int32.toUInt32 31)).toInt32) &&& (nI 1431655765))) &&& (nI 858993459)) + (((((nI S) - ((((nI S).toUInt32 >>> ((nI 1).toUInt32 &&& Int32.toUInt32 31)).toInt32) &&& (nI 1431655765))).toUInt32 >>> ((nI 2).toUInt32 &&& Int32.toUInt32 31)).toInt32) &&& (nI 858993459))).toUInt32 >>> ((nI 4).toUInt32 &&& Int32.toUInt32 31)).toInt32)) &&& (nI 252645135)) + ((((((((nI S) - ((((nI S).toUInt32 >>> ((nI 1).toUInt32 &&& Int32.toUInt32 31)).toInt32) &&& (nI 1431655765))) &&& (nI 858993459)) + (((((nI S) - ((((nI S).toUInt32 >>> ((nI 1).toUInt32 &&& Int32.toUInt32 31)).toInt32) &&& (nI 1431655765))).toUInt32 >>> ((nI 2).toUInt32 &&& Int32.toUInt32 31)).toInt32) &&& (nI 858993459))) + ((((((nI S) - ((((nI S).toUInt32 >>> ((nI 1).toUInt32 &&& Int32.toUInt32 31)).toInt32) &&& (nI 1431655765))) &&& (nI 858993459)) + (((((nI S) - ((((nI S).toUInt32 >>> ((nI 1).toUInt32 &&& Int32.toUInt32 31)).toInt32) &&& (nI 1431655765))).toUInt32 >>> ((nI 2).toUInt32 &&& Int32.toUInt32 31)).toInt32) &&& (nI 858993459))).toUInt32 >>> ((nI 4).toUInt32 &&& Int32.toUInt32 31)).toInt32)) &&& (nI 252645135)).toUInt32 >>> ((nI 8).toUInt32 &&& Int32.toUInt32 31)).toInt32)).toUInt32 >>> ((nI 16).toUInt32 &&& Int32.toUInt32 31)).toInt32)) &&& (nI 63))], h)) (P := True) rfl trivial ?_
  refine jt_iret jm_m238 41 rfl ?_
  exact ⟨jt_li (jx_bc _ hS), rfl⟩
set_option maxHeartbeats 4000000 in
set_option maxRecDepth 20000 in
theorem tb_copies_l {h : jm_M} {a b : Nat} {g : Nat → Nat} (R : jg_rel h a g) (hab : ¬ a = b) : ∀ k, k ≤ 78 → ∀ hm : jm_M, (jg_fr b h hm) → (∀ i, i < k → hm (5, b, 0) i = nI (g i)) → jt_T 146 (2, [(0, .inr (.inr (5, a, 0))), (1, .inr (.inr (5, b, 0))), (2, .inl (nI k))], [], hm) (fun u h' => u = none ∧ jg_rel h' b g ∧ jg_fr b h h') := jx_up (P := fun k => ∀ hm : jm_M, (jg_fr b h hm) → (∀ i, i < k → hm (5, b, 0) i = nI (g i)) → jt_T 146 (2, [(0, .inr (.inr (5, a, 0))), (1, .inr (.inr (5, b, 0))), (2, .inl (nI k))], [], hm) (fun u h' => u = none ∧ jg_rel h' b g ∧ jg_fr b h h')) (fun k hk nx hm Fm Km => by
  refine jt_go jm_m146 2 2 (f' := (5, [(0, .inr (.inr (5, a, 0))), (1, .inr (.inr (5, b, 0))), (2, .inl (nI k))], [.inl (nI 78), .inl (nI k)], hm)) (P := True) rfl trivial ?_
  refine jt_nicge jm_m146 4 (a := k) (b := 78) (by omega) (by omega) (tgt := 20) (nxt := 8) rfl rfl rfl (fun c5 => ?_) (fun c5 => ?_)
  · refine jt_vret jm_m146 13 rfl ?_
    exact ⟨rfl, fun i hi => Km i (by omega), Fm⟩
  · refine jt_go jm_m146 5 5 (f' := (13, [(0, .inr (.inr (5, a, 0))), (1, .inr (.inr (5, b, 0))), (2, .inl (nI k))], [.inl (hm (5, a, 0) (nI k).toNatClampNeg), .inl (nI k), .inr (.inr (5, b, 0))], hm)) (P := vp_in (nI k) 78 ∧ True) rfl ⟨(vp_in_nI (by omega) (by decide)), trivial⟩ ?_
    refine jt_ti (show (hm (5, a, 0) (nI k).toNatClampNeg) = nI (g k) from by rw [Fm (5, a, 0) (by simp; exact hab), nI_clamp (by omega)]; exact R k (by omega)) ?_
    refine jt_goM jm_m146 10 1 (pc' := 14) (L' := [(0, .inr (.inr (5, a, 0))), (1, .inr (.inr (5, b, 0))), (2, .inl (nI k))]) (st' := []) (m' := jm_set hm (5, b, 0) (upd (hm (5, b, 0)) (nI k).toNatClampNeg (nI (g k)))) (P := vp_in (nI k) 78 ∧ True) rfl ⟨(vp_in_nI (by omega) (by decide)), trivial⟩ (fun h1 eh1 => ?_)
    have F1 : jg_fr b h h1 := by rw [eh1]; exact jg_fr_set Fm
    have K1 : ∀ i, i < k + 1 → h1 (5, b, 0) i = nI (g i) := by
      intro i hi
      rw [eh1, jm_set_eq, nI_clamp (by omega)]
      by_cases e : i = k
      · rw [e, jx_eq]
      · rw [jx_ne e]; exact Km i (by omega)
    refine jt_inc jm_m146 11 (c := k) (L' := [(2, .inl (nI (k + 1))), (0, .inr (.inr (5, a, 0))), (1, .inr (.inr (5, b, 0)))]) rfl rfl rfl rfl ?_
    refine jt_go jm_m146 12 1 (f' := (2, [(2, .inl (nI (k + 1))), (0, .inr (.inr (5, a, 0))), (1, .inr (.inr (5, b, 0)))], [], h1)) (P := True) rfl trivial ?_
    refine jt_pick (L' := [(0, .inr (.inr (5, a, 0))), (1, .inr (.inr (5, b, 0))), (2, .inl (nI (k + 1)))]) [1, 2, 0] rfl ?_
    exact nx c5 h1 F1 K1)
set_option maxHeartbeats 4000000 in
set_option maxRecDepth 20000 in
theorem tb_copies {h : jm_M} {a b : Nat} {g : Nat → Nat} (R : jg_rel h a g) (hab : ¬ a = b) : jt_T 146 (0, [(0, .inr (.inr (5, a, 0))), (1, .inr (.inr (5, b, 0)))], [], h) (fun u h' => u = none ∧ jg_rel h' b g ∧ jg_fr b h h') := by
  refine jt_go jm_m146 0 2 (f' := (2, [(2, .inl (nI 0)), (0, .inr (.inr (5, a, 0))), (1, .inr (.inr (5, b, 0)))], [], h)) (P := True) rfl trivial ?_
  refine jt_pick (L' := [(0, .inr (.inr (5, a, 0))), (1, .inr (.inr (5, b, 0))), (2, .inl (nI 0))]) [1, 2, 0] rfl ?_
  exact tb_copies_l R hab 0 (Nat.zero_le _) h jg_fr_rf (fun i hi => absurd hi (Nat.not_lt_zero _))
set_option maxHeartbeats 4000000 in
set_option maxRecDepth 20000 in
theorem tb_goOn_l {h : jm_M} {a n : Nat} {g : Nat → Nat} (W : jw g) (hn : n < 2 ^ 31) : ∀ k, k ≤ n → ∀ hm : jm_M, (jg_rel hm a (sp_it g k)) → (jg_fr a h hm) → jt_T 164 (2, [(0, .inr (.inr (5, a, 0))), (1, .inl (nI n)), (2, .inl (nI k))], [], hm) (fun u h' => u = none ∧ jg_rel h' a (sp_it g n) ∧ jg_fr a h h') := jx_up (P := fun k => ∀ hm : jm_M, (jg_rel hm a (sp_it g k)) → (jg_fr a h hm) → jt_T 164 (2, [(0, .inr (.inr (5, a, 0))), (1, .inl (nI n)), (2, .inl (nI k))], [], hm) (fun u h' => u = none ∧ jg_rel h' a (sp_it g n) ∧ jg_fr a h h')) (fun k hk nx hm Rm Fm => by
  have Wk := (jw_it W k).1
  refine jt_go jm_m164 2 2 (f' := (4, [(0, .inr (.inr (5, a, 0))), (1, .inl (nI n)), (2, .inl (nI k))], [.inl (nI n), .inl (nI k)], hm)) (P := True) rfl trivial ?_
  refine jt_nicge jm_m164 4 (a := k) (b := n) (by omega) (by omega) (tgt := 19) (nxt := 7) rfl rfl rfl (fun c4 => ?_) (fun c4 => ?_)
  · refine jt_vret jm_m164 11 rfl ?_
    have e : k = n := by omega
    subst e
    exact ⟨rfl, Rm, Fm⟩
  · refine jt_go jm_m164 5 2 (f' := (9, [(0, .inr (.inr (5, a, 0))), (1, .inl (nI n)), (2, .inl (nI k))], [.inl (nI 0), .inr (.inr (5, a, 0))], hm)) (P := True) rfl trivial ?_
    refine jt_call jm_m164 7 (mi' := 163) (as := [.inr (.inr (5, a, 0)), .inl (nI 0)]) (rest := []) (nxt := 12) rfl rfl jm_m163 rfl rfl (tb_hour0 Rm Wk) ?_
    rintro u h1 ⟨rfl, Rh1, Fh1⟩
    show jt_T 164 (12, [(0, .inr (.inr (5, a, 0))), (1, .inl (nI n)), (2, .inl (nI k))], [.inl (nI (sp_set (sp_it g k) false))], h1) _
    refine jt_go jm_m164 8 1 (f' := (13, [(3, .inl (nI (sp_set (sp_it g k) false))), (0, .inr (.inr (5, a, 0))), (1, .inl (nI n)), (2, .inl (nI k))], [], h1)) (P := True) rfl trivial ?_
    refine jt_inc jm_m164 9 (c := k) (L' := [(2, .inl (nI (k + 1))), (3, .inl (nI (sp_set (sp_it g k) false))), (0, .inr (.inr (5, a, 0))), (1, .inl (nI n))]) rfl rfl rfl rfl ?_
    refine jt_go jm_m164 10 1 (f' := (2, [(2, .inl (nI (k + 1))), (3, .inl (nI (sp_set (sp_it g k) false))), (0, .inr (.inr (5, a, 0))), (1, .inl (nI n))], [], h1)) (P := True) rfl trivial ?_
    refine jt_pick (L' := [(0, .inr (.inr (5, a, 0))), (1, .inl (nI n)), (2, .inl (nI (k + 1)))]) [2, 3, 0] rfl ?_
    exact nx c4 h1 Rh1 (jg_fr_tr Fm Fh1))
set_option maxHeartbeats 4000000 in
set_option maxRecDepth 20000 in
theorem tb_goOn {h : jm_M} {a : Nat} {g : Nat → Nat} (R : jg_rel h a g) (W : jw g) {n : Nat} (hn : n < 2 ^ 31) : jt_T 164 (0, [(0, .inr (.inr (5, a, 0))), (1, .inl (nI n))], [], h) (fun u h' => u = none ∧ jg_rel h' a (sp_it g n) ∧ jg_fr a h h') := by
  refine jt_go jm_m164 0 2 (f' := (2, [(2, .inl (nI 0)), (0, .inr (.inr (5, a, 0))), (1, .inl (nI n))], [], h)) (P := True) rfl trivial ?_
  refine jt_pick (L' := [(0, .inr (.inr (5, a, 0))), (1, .inl (nI n)), (2, .inl (nI 0))]) [1, 2, 0] rfl ?_
  exact tb_goOn_l W hn 0 (Nat.zero_le _) _ R jg_fr_rf
set_option maxHeartbeats 4000000 in
set_option maxRecDepth 20000 in
theorem tb_passed_l {h : jm_M} {a : Nat} {g : Nat → Nat} (R : jg_rel h a g) (W : jw g)  : ∀ k, k ≤ g 1 → jt_T 165 (4, [(0, .inr (.inr (5, a, 0))), (1, .inl (nI (sp_ps g k))), (2, .inl (nI k))], [], h) (fun u h' => u = some (.inl (nI (sp_ps g (g 1)))) ∧ h' = h) := jx_up (fun k hk nx => by
  have bn := jw_n W
  have bm := jw_m W
  have bt := jw_t W
  have bs := sp_ps_lt W k (by omega)
  refine jt_go jm_m165 4 4 (f' := (8, [(0, .inr (.inr (5, a, 0))), (1, .inl (nI (sp_ps g k))), (2, .inl (nI k))], [.inl (h (5, a, 0) (nI 1).toNatClampNeg), .inl (nI k)], h)) (P := vp_in (nI 1) 78 ∧ True) rfl ⟨(vp_in_nI (by omega) (by decide)), trivial⟩ ?_
  refine jt_ti (show (h (5, a, 0) (nI 1).toNatClampNeg) = nI (g 1) from jg_get R (k := 1) (nI_clamp (by omega)) (by omega)) ?_
  have bq1 := jw_m W
  refine jt_nicge jm_m165 8 (a := k) (b := g 1) (by omega) (by omega) (tgt := 29) (nxt := 11) rfl rfl rfl (fun c8 => ?_) (fun c8 => ?_)
  · refine jt_go jm_m165 21 1 (f' := (30, [(0, .inr (.inr (5, a, 0))), (1, .inl (nI (sp_ps g k))), (2, .inl (nI k))], [.inl (nI (sp_ps g k))], h)) (P := True) rfl trivial ?_
    refine jt_iret jm_m165 22 rfl ?_
    have e : k = g 1 := by omega
    subst e
    exact ⟨rfl, rfl⟩
  · refine jt_go jm_m165 9 4 (f' := (15, [(0, .inr (.inr (5, a, 0))), (1, .inl (nI (sp_ps g k))), (2, .inl (nI k))], [.inl (nI 1), .inl (nI k), .inr (.inr (5, a, 0)), .inl (nI (sp_ps g k))], h)) (P := True) rfl trivial ?_
    refine jt_callp (w := .inl (nI (67 + 2 * k))) jm_m165 13 (mi' := 148) (as := [.inl (nI k), .inl (nI 1)]) (rest := [.inr (.inr (5, a, 0)), .inl (nI (sp_ps g k))]) (nxt := 18) rfl rfl jm_m148 rfl rfl (tb_ofM (k := 67 + 2 * k) (by omega)) ?_
    refine jt_go jm_m165 14 1 (f' := (19, [(0, .inr (.inr (5, a, 0))), (1, .inl (nI (sp_ps g k))), (2, .inl (nI k))], [.inl (h (5, a, 0) (nI (67 + 2 * k)).toNatClampNeg), .inl (nI (sp_ps g k))], h)) (P := vp_in (nI (67 + 2 * k)) 78 ∧ True) rfl ⟨(vp_in_nI (by omega) (by decide)), trivial⟩ ?_
    refine jt_ti (show (h (5, a, 0) (nI (67 + 2 * k)).toNatClampNeg) = nI (g (67 + 2 * k)) from jg_get R (k := 67 + 2 * k) (nI_clamp (by omega)) (by omega)) ?_
    have bq2 := jw_pas W (c := k) (by omega)
    refine jt_go jm_m165 15 3 (f' := (22, [(0, .inr (.inr (5, a, 0))), (1, .inl (nI (sp_ps g k))), (2, .inl (nI k))], [.inl ((nI (sp_ps g k)) ||| ((nI (g (67 + 2 * k))) <<< ((nI k) &&& 31)))], h)) (P := True) rfl trivial ?_
    refine jt_ti (show ((nI (sp_ps g k)) ||| ((nI (g (67 + 2 * k))) <<< ((nI k) &&& 31))) = nI (sp_ps g k + g (67 + 2 * k) * 2 ^ k) from jx_orp _ (by have := jx_p32 (c := k) (by omega); omega) _ (by omega) bs _ (by omega)) ?_
    refine jt_go jm_m165 18 1 (f' := (23, [(1, .inl (nI (sp_ps g k + g (67 + 2 * k) * 2 ^ k))), (0, .inr (.inr (5, a, 0))), (2, .inl (nI k))], [], h)) (P := True) rfl trivial ?_
    refine jt_inc jm_m165 19 (c := k) (L' := [(2, .inl (nI (k + 1))), (1, .inl (nI (sp_ps g k + g (67 + 2 * k) * 2 ^ k))), (0, .inr (.inr (5, a, 0)))]) rfl rfl rfl rfl ?_
    refine jt_go jm_m165 20 1 (f' := (4, [(2, .inl (nI (k + 1))), (1, .inl (nI (sp_ps g k + g (67 + 2 * k) * 2 ^ k))), (0, .inr (.inr (5, a, 0)))], [], h)) (P := True) rfl trivial ?_
    refine jt_pick (L' := [(0, .inr (.inr (5, a, 0))), (1, .inl (nI (sp_ps g k + g (67 + 2 * k) * 2 ^ k))), (2, .inl (nI (k + 1)))]) [2, 1, 0] rfl ?_
    exact nx c8)
set_option maxHeartbeats 4000000 in
set_option maxRecDepth 20000 in
theorem tb_passed {h : jm_M} {a : Nat} {g : Nat → Nat} (R : jg_rel h a g) (W : jw g)  : jt_Pu 165 [.inr (.inr (5, a, 0))] h (.inl (nI (sp_pb g))) := by
  rw [← sp_ps_pb W]
  show jt_T 165 (0, [(0, .inr (.inr (5, a, 0)))], [], h) _
  refine jt_go jm_m165 0 4 (f' := (4, [(2, .inl (nI 0)), (1, .inl (nI 0)), (0, .inr (.inr (5, a, 0)))], [], h)) (P := True) rfl trivial ?_
  refine jt_pick (L' := [(0, .inr (.inr (5, a, 0))), (1, .inl (nI 0)), (2, .inl (nI 0))]) [2, 1, 0] rfl ?_
  exact tb_passed_l R W 0 (Nat.zero_le _)
set_option maxHeartbeats 4000000 in
set_option maxRecDepth 20000 in
theorem tb_name {h : jm_M} {a : Nat} {g : Nat → Nat} (R : jg_rel h a g) (W : jw g) {c m : Nat} (hc : c < 6) : jt_T 166 (0, [(0, .inr (.inr (5, a, 0))), (1, .inl (nI c)), (2, .inl (nI m))], [], h) (fun u h' => u = none ∧ jg_rel h' a (sp_up (sp_up g (40 + 5 * c) m) (39 + 5 * c) 0) ∧ jg_fr a h h') := by
  refine jt_go jm_m166 0 3 (f' := (3, [(0, .inr (.inr (5, a, 0))), (1, .inl (nI c)), (2, .inl (nI m))], [.inl (nI 4), .inl (nI c), .inr (.inr (5, a, 0))], h)) (P := True) rfl trivial ?_
  refine jt_callp (w := .inl (nI (40 + 5 * c))) jm_m166 3 (mi' := 147) (as := [.inl (nI c), .inl (nI 4)]) (rest := [.inr (.inr (5, a, 0))]) (nxt := 6) rfl rfl jm_m147 rfl rfl (tb_ofC (k := 40 + 5 * c) (by omega)) ?_
  refine jt_goM jm_m166 4 2 (pc' := 8) (L' := [(0, .inr (.inr (5, a, 0))), (1, .inl (nI c)), (2, .inl (nI m))]) (st' := []) (m' := jm_set h (5, a, 0) (upd (h (5, a, 0)) (nI (40 + 5 * c)).toNatClampNeg (nI m))) (P := vp_in (nI (40 + 5 * c)) 78 ∧ True) rfl ⟨(vp_in_nI (by omega) (by decide)), trivial⟩ (fun h1 eh1 => ?_)
  have Fh1 : jg_fr a h h1 := by rw [eh1]; exact jg_fr_set jg_fr_rf
  obtain ⟨gh1, egh1⟩ : ∃ y, y = sp_up g (40 + 5 * c) (m) := ⟨_, rfl⟩
  have Rh1 : jg_rel h1 a gh1 := by rw [eh1, egh1]; exact jg_set R (k := 40 + 5 * c) (w := m) (nI_clamp (by omega)) rfl
  refine jt_go jm_m166 6 3 (f' := (11, [(0, .inr (.inr (5, a, 0))), (1, .inl (nI c)), (2, .inl (nI m))], [.inl (nI 3), .inl (nI c), .inr (.inr (5, a, 0))], h1)) (P := True) rfl trivial ?_
  refine jt_callp (w := .inl (nI (39 + 5 * c))) jm_m166 9 (mi' := 147) (as := [.inl (nI c), .inl (nI 3)]) (rest := [.inr (.inr (5, a, 0))]) (nxt := 14) rfl rfl jm_m147 rfl rfl (tb_ofC (k := 39 + 5 * c) (by omega)) ?_
  refine jt_goM jm_m166 10 2 (pc' := 16) (L' := [(0, .inr (.inr (5, a, 0))), (1, .inl (nI c)), (2, .inl (nI m))]) (st' := []) (m' := jm_set h1 (5, a, 0) (upd (h1 (5, a, 0)) (nI (39 + 5 * c)).toNatClampNeg (nI 0))) (P := vp_in (nI (39 + 5 * c)) 78 ∧ True) rfl ⟨(vp_in_nI (by omega) (by decide)), trivial⟩ (fun h2 eh2 => ?_)
  have Fh2 : jg_fr a h h2 := by rw [eh2]; exact jg_fr_set Fh1
  obtain ⟨gh2, egh2⟩ : ∃ y, y = sp_up gh1 (39 + 5 * c) (0) := ⟨_, rfl⟩
  have Rh2 : jg_rel h2 a gh2 := by rw [eh2, egh2]; exact jg_set Rh1 (k := 39 + 5 * c) (w := 0) (nI_clamp (by omega)) rfl
  refine jt_vret jm_m166 12 rfl ?_
  rw [← egh1, ← egh2]
  exact ⟨rfl, Rh2, Fh2⟩
set_option maxHeartbeats 4000000 in
set_option maxRecDepth 20000 in
theorem tb_canGo {h : jm_M} {a : Nat} {g : Nat → Nat} (R : jg_rel h a g) (W : jw g) {x : Int32} : jt_Pu 167 [.inr (.inr (5, a, 0)), .inl (x)] h (.inl (jm_b (¬ nI 999 < nI (g 3) + (nI (g 2) + x) / nI 24))) := by
  show jt_T 167 (0, [(0, .inr (.inr (5, a, 0))), (1, .inl (x))], [], h) _
  refine jt_go jm_m167 0 3 (f' := (3, [(0, .inr (.inr (5, a, 0))), (1, .inl (x))], [.inl (h (5, a, 0) (nI 3).toNatClampNeg)], h)) (P := vp_in (nI 3) 78 ∧ True) rfl ⟨(vp_in_nI (by omega) (by decide)), trivial⟩ ?_
  refine jt_ti (show (h (5, a, 0) (nI 3).toNatClampNeg) = nI (g 3) from jg_get R (k := 3) (nI_clamp (by omega)) (by omega)) ?_
  refine jt_go jm_m167 3 3 (f' := (6, [(0, .inr (.inr (5, a, 0))), (1, .inl (x))], [.inl (h (5, a, 0) (nI 2).toNatClampNeg), .inl (nI (g 3))], h)) (P := vp_in (nI 2) 78 ∧ True) rfl ⟨(vp_in_nI (by omega) (by decide)), trivial⟩ ?_
  refine jt_ti (show (h (5, a, 0) (nI 2).toNatClampNeg) = nI (g 2) from jg_get R (k := 2) (nI_clamp (by omega)) (by omega)) ?_
  have bq1 := jw_t W
  refine jt_go jm_m167 6 6 (f' := (15, [(0, .inr (.inr (5, a, 0))), (1, .inl (x))], [.inl (nI 999), .inl ((nI (g 3)) + (((nI (g 2)) + x) / (nI 24)))], h)) (P := ¬ (nI 24) = 0 ∧ True) rfl ⟨(by decide), trivial⟩ ?_
  refine jt_icgt jm_m167 12 (tgt := 22) (nxt := 18) rfl rfl rfl (fun c15 => ?_) (fun c15 => ?_)
  · refine jt_go jm_m167 15 1 (f' := (23, [(0, .inr (.inr (5, a, 0))), (1, .inl (x))], [.inl (nI 0)], h)) (P := True) rfl trivial ?_
    refine jt_zret jm_m167 16 rfl (Or.inl rfl) ?_
    exact ⟨jt_lb0 (not_not_intro c15), rfl⟩
  · refine jt_go jm_m167 13 2 (f' := (23, [(0, .inr (.inr (5, a, 0))), (1, .inl (x))], [.inl (nI 1)], h)) (P := True) rfl trivial ?_
    refine jt_zret jm_m167 16 rfl (Or.inr rfl) ?_
    exact ⟨jt_lb1 (c15), rfl⟩
set_option maxHeartbeats 4000000 in
set_option maxRecDepth 20000 in
theorem tb_addFish {h : jm_M} {a : Nat} {g : Nat → Nat} (R : jg_rel h a g) (W : jw g) {p v : Nat} (hp : p < 16) (hv : v < 100) : jt_T 198 (0, [(0, .inr (.inr (5, a, 0))), (1, .inl (nI p)), (2, .inl (nI v))], [], h) (fun u h' => u = none ∧ jg_rel h' a (sp_up g (4 + p) (min 9 (g (4 + p) + v))) ∧ jg_fr a h h') := by
  refine jt_go jm_m198 0 4 (f' := (4, [(0, .inr (.inr (5, a, 0))), (1, .inl (nI p)), (2, .inl (nI v))], [.inl ((nI 4) + (nI p)), .inr (.inr (5, a, 0))], h)) (P := True) rfl trivial ?_
  refine jt_ti (show ((nI 4) + (nI p)) = nI (4 + p) from nI_add _ _) ?_
  refine jt_go jm_m198 4 5 (f' := (10, [(0, .inr (.inr (5, a, 0))), (1, .inl (nI p)), (2, .inl (nI v))], [.inl ((nI 4) + (nI p)), .inr (.inr (5, a, 0)), .inl (nI 9), .inl (nI (4 + p)), .inr (.inr (5, a, 0))], h)) (P := True) rfl trivial ?_
  refine jt_ti (show ((nI 4) + (nI p)) = nI (4 + p) from nI_add _ _) ?_
  refine jt_go jm_m198 9 1 (f' := (11, [(0, .inr (.inr (5, a, 0))), (1, .inl (nI p)), (2, .inl (nI v))], [.inl (h (5, a, 0) (nI (4 + p)).toNatClampNeg), .inl (nI 9), .inl (nI (4 + p)), .inr (.inr (5, a, 0))], h)) (P := vp_in (nI (4 + p)) 78 ∧ True) rfl ⟨(vp_in_nI (by omega) (by decide)), trivial⟩ ?_
  refine jt_ti (show (h (5, a, 0) (nI (4 + p)).toNatClampNeg) = nI (g (4 + p)) from jg_get R (k := 4 + p) (nI_clamp (by omega)) (by omega)) ?_
  have bq1 := jw_fish W (p := p) (by omega)
  refine jt_go jm_m198 10 2 (f' := (13, [(0, .inr (.inr (5, a, 0))), (1, .inl (nI p)), (2, .inl (nI v))], [.inl ((nI (g (4 + p))) + (nI v)), .inl (nI 9), .inl (nI (4 + p)), .inr (.inr (5, a, 0))], h)) (P := True) rfl trivial ?_
  refine jt_ti (show ((nI (g (4 + p))) + (nI v)) = nI (g (4 + p) + v) from nI_add _ _) ?_
  refine jt_callp (w := .inl (nI (min 9 (g (4 + p) + v)))) jm_m198 12 (mi' := 144) (as := [.inl (nI 9), .inl (nI (g (4 + p) + v))]) (rest := [.inl (nI (4 + p)), .inr (.inr (5, a, 0))]) (nxt := 16) rfl rfl jm_m144 rfl rfl (tb_least (by omega) (by omega)) ?_
  refine jt_goM jm_m198 13 1 (pc' := 17) (L' := [(0, .inr (.inr (5, a, 0))), (1, .inl (nI p)), (2, .inl (nI v))]) (st' := []) (m' := jm_set h (5, a, 0) (upd (h (5, a, 0)) (nI (4 + p)).toNatClampNeg (nI (min 9 (g (4 + p) + v))))) (P := vp_in (nI (4 + p)) 78 ∧ True) rfl ⟨(vp_in_nI (by omega) (by decide)), trivial⟩ (fun h1 eh1 => ?_)
  have Fh1 : jg_fr a h h1 := by rw [eh1]; exact jg_fr_set jg_fr_rf
  obtain ⟨gh1, egh1⟩ : ∃ y, y = sp_up g (4 + p) (min 9 (g (4 + p) + v)) := ⟨_, rfl⟩
  have Rh1 : jg_rel h1 a gh1 := by rw [eh1, egh1]; exact jg_set R (k := 4 + p) (w := min 9 (g (4 + p) + v)) (nI_clamp (by omega)) rfl
  refine jt_vret jm_m198 14 rfl ?_
  rw [← egh1]
  exact ⟨rfl, Rh1, Fh1⟩
set_option maxHeartbeats 4000000 in
set_option maxRecDepth 20000 in
theorem tb_fish_l {h : jm_M} {a : Nat} {g : Nat → Nat} (R : jg_rel h a g) (W : jw g)  : ∀ k, k ≤ 16 → jt_T 187 (4, [(0, .inr (.inr (5, a, 0))), (1, .inl (nI (sp_sum (fun p => g (4 + p)) k))), (2, .inl (nI k))], [], h) (fun u h' => u = some (.inl (nI (sp_sum (fun p => g (4 + p)) 16))) ∧ h' = h) := jx_up (fun k hk nx => by
  refine jt_go jm_m187 4 2 (f' := (7, [(0, .inr (.inr (5, a, 0))), (1, .inl (nI (sp_sum (fun p => g (4 + p)) k))), (2, .inl (nI k))], [.inl (nI 16), .inl (nI k)], h)) (P := True) rfl trivial ?_
  refine jt_nicge jm_m187 6 (a := k) (b := 16) (by omega) (by omega) (tgt := 24) (nxt := 10) rfl rfl rfl (fun c7 => ?_) (fun c7 => ?_)
  · refine jt_go jm_m187 17 1 (f' := (25, [(0, .inr (.inr (5, a, 0))), (1, .inl (nI (sp_sum (fun p => g (4 + p)) k))), (2, .inl (nI k))], [.inl (nI (sp_sum (fun p => g (4 + p)) k))], h)) (P := True) rfl trivial ?_
    refine jt_iret jm_m187 18 rfl ?_
    have e : k = 16 := by omega
    subst e
    exact ⟨rfl, rfl⟩
  · refine jt_go jm_m187 7 5 (f' := (15, [(0, .inr (.inr (5, a, 0))), (1, .inl (nI (sp_sum (fun p => g (4 + p)) k))), (2, .inl (nI k))], [.inl ((nI 4) + (nI k)), .inr (.inr (5, a, 0)), .inl (nI (sp_sum (fun p => g (4 + p)) k))], h)) (P := True) rfl trivial ?_
    refine jt_ti (show ((nI 4) + (nI k)) = nI (4 + k) from nI_add _ _) ?_
    refine jt_go jm_m187 12 1 (f' := (16, [(0, .inr (.inr (5, a, 0))), (1, .inl (nI (sp_sum (fun p => g (4 + p)) k))), (2, .inl (nI k))], [.inl (h (5, a, 0) (nI (4 + k)).toNatClampNeg), .inl (nI (sp_sum (fun p => g (4 + p)) k))], h)) (P := vp_in (nI (4 + k)) 78 ∧ True) rfl ⟨(vp_in_nI (by omega) (by decide)), trivial⟩ ?_
    refine jt_ti (show (h (5, a, 0) (nI (4 + k)).toNatClampNeg) = nI (g (4 + k)) from jg_get R (k := 4 + k) (nI_clamp (by omega)) (by omega)) ?_
    have bq1 := jw_fish W (p := k) (by omega)
    refine jt_go jm_m187 13 1 (f' := (17, [(0, .inr (.inr (5, a, 0))), (1, .inl (nI (sp_sum (fun p => g (4 + p)) k))), (2, .inl (nI k))], [.inl ((nI (sp_sum (fun p => g (4 + p)) k)) + (nI (g (4 + k))))], h)) (P := True) rfl trivial ?_
    refine jt_ti (show ((nI (sp_sum (fun p => g (4 + p)) k)) + (nI (g (4 + k)))) = nI (sp_sum (fun p => g (4 + p)) k + (g (4 + k))) from nI_add _ _) ?_
    refine jt_go jm_m187 14 1 (f' := (18, [(1, .inl (nI (sp_sum (fun p => g (4 + p)) k + (g (4 + k))))), (0, .inr (.inr (5, a, 0))), (2, .inl (nI k))], [], h)) (P := True) rfl trivial ?_
    refine jt_inc jm_m187 15 (c := k) (L' := [(2, .inl (nI (k + 1))), (1, .inl (nI (sp_sum (fun p => g (4 + p)) k + (g (4 + k))))), (0, .inr (.inr (5, a, 0)))]) rfl rfl rfl rfl ?_
    refine jt_go jm_m187 16 1 (f' := (4, [(2, .inl (nI (k + 1))), (1, .inl (nI (sp_sum (fun p => g (4 + p)) k + (g (4 + k))))), (0, .inr (.inr (5, a, 0)))], [], h)) (P := True) rfl trivial ?_
    refine jt_pick (L' := [(0, .inr (.inr (5, a, 0))), (1, .inl (nI (sp_sum (fun p => g (4 + p)) k + (g (4 + k))))), (2, .inl (nI (k + 1)))]) [2, 1, 0] rfl ?_
    exact nx c7)
set_option maxHeartbeats 4000000 in
set_option maxRecDepth 20000 in
theorem tb_fish {h : jm_M} {a : Nat} {g : Nat → Nat} (R : jg_rel h a g) (W : jw g)  : jt_Pu 187 [.inr (.inr (5, a, 0))] h (.inl (nI (sp_sum (fun p => g (4 + p)) 16))) := by
  show jt_T 187 (0, [(0, .inr (.inr (5, a, 0)))], [], h) _
  refine jt_go jm_m187 0 4 (f' := (4, [(2, .inl (nI 0)), (1, .inl (nI 0)), (0, .inr (.inr (5, a, 0)))], [], h)) (P := True) rfl trivial ?_
  refine jt_pick (L' := [(0, .inr (.inr (5, a, 0))), (1, .inl (nI 0)), (2, .inl (nI 0))]) [2, 1, 0] rfl ?_
  exact tb_fish_l R W 0 (Nat.zero_le _)
set_option maxHeartbeats 4000000 in
set_option maxRecDepth 20000 in
theorem tb_catsAt_l {h : jm_M} {a : Nat} {g : Nat → Nat} (R : jg_rel h a g) (W : jw g) {p : Nat} (hp : p < 16) : ∀ k, k ≤ g 0 → jt_T 177 (4, [(0, .inr (.inr (5, a, 0))), (1, .inl (nI p)), (2, .inl (nI (sp_bits (fun c => decide (g (38 + 5 * c) = p)) k))), (3, .inl (nI k))], [], h) (fun u h' => u = some (.inl (nI (sp_bits (fun c => decide (g (38 + 5 * c) = p)) (g 0)))) ∧ h' = h) := jx_up (fun k hk nx => by
  have bn := jw_n W
  have bm := jw_m W
  have bt := jw_t W
  have bs := sp_bits_lt (fun c => decide (g (38 + 5 * c) = p)) k
  refine jt_go jm_m177 4 4 (f' := (8, [(0, .inr (.inr (5, a, 0))), (1, .inl (nI p)), (2, .inl (nI (sp_bits (fun c => decide (g (38 + 5 * c) = p)) k))), (3, .inl (nI k))], [.inl (h (5, a, 0) (nI 0).toNatClampNeg), .inl (nI k)], h)) (P := vp_in (nI 0) 78 ∧ True) rfl ⟨(vp_in_nI (by omega) (by decide)), trivial⟩ ?_
  refine jt_ti (show (h (5, a, 0) (nI 0).toNatClampNeg) = nI (g 0) from jg_get R (k := 0) (nI_clamp (by omega)) (by omega)) ?_
  have bq1 := jw_n W
  refine jt_nicge jm_m177 8 (a := k) (b := g 0) (by omega) (by omega) (tgt := 38) (nxt := 11) rfl rfl rfl (fun c8 => ?_) (fun c8 => ?_)
  · refine jt_go jm_m177 26 1 (f' := (39, [(0, .inr (.inr (5, a, 0))), (1, .inl (nI p)), (2, .inl (nI (sp_bits (fun c => decide (g (38 + 5 * c) = p)) k))), (3, .inl (nI k))], [.inl (nI (sp_bits (fun c => decide (g (38 + 5 * c) = p)) k))], h)) (P := True) rfl trivial ?_
    refine jt_iret jm_m177 27 rfl ?_
    have e : k = g 0 := by omega
    subst e
    exact ⟨rfl, rfl⟩
  · refine jt_go jm_m177 9 4 (f' := (15, [(0, .inr (.inr (5, a, 0))), (1, .inl (nI p)), (2, .inl (nI (sp_bits (fun c => decide (g (38 + 5 * c) = p)) k))), (3, .inl (nI k))], [.inl (nI 2), .inl (nI k), .inr (.inr (5, a, 0)), .inl (nI (sp_bits (fun c => decide (g (38 + 5 * c) = p)) k))], h)) (P := True) rfl trivial ?_
    refine jt_callp (w := .inl (nI (38 + 5 * k))) jm_m177 13 (mi' := 147) (as := [.inl (nI k), .inl (nI 2)]) (rest := [.inr (.inr (5, a, 0)), .inl (nI (sp_bits (fun c => decide (g (38 + 5 * c) = p)) k))]) (nxt := 18) rfl rfl jm_m147 rfl rfl (tb_ofC (k := 38 + 5 * k) (by omega)) ?_
    refine jt_go jm_m177 14 1 (f' := (19, [(0, .inr (.inr (5, a, 0))), (1, .inl (nI p)), (2, .inl (nI (sp_bits (fun c => decide (g (38 + 5 * c) = p)) k))), (3, .inl (nI k))], [.inl (h (5, a, 0) (nI (38 + 5 * k)).toNatClampNeg), .inl (nI (sp_bits (fun c => decide (g (38 + 5 * c) = p)) k))], h)) (P := vp_in (nI (38 + 5 * k)) 78 ∧ True) rfl ⟨(vp_in_nI (by omega) (by decide)), trivial⟩ ?_
    refine jt_ti (show (h (5, a, 0) (nI (38 + 5 * k)).toNatClampNeg) = nI (g (38 + 5 * k)) from jg_get R (k := 38 + 5 * k) (nI_clamp (by omega)) (by omega)) ?_
    have bq2 := jw_at W (c := k) (by omega)
    refine jt_go jm_m177 15 1 (f' := (20, [(0, .inr (.inr (5, a, 0))), (1, .inl (nI p)), (2, .inl (nI (sp_bits (fun c => decide (g (38 + 5 * c) = p)) k))), (3, .inl (nI k))], [.inl (nI p), .inl (nI (g (38 + 5 * k))), .inl (nI (sp_bits (fun c => decide (g (38 + 5 * c) = p)) k))], h)) (P := True) rfl trivial ?_
    refine jt_nicne jm_m177 16 (a := g (38 + 5 * k)) (b := p) (by omega) (by omega) (tgt := 29) (nxt := 23) rfl rfl rfl (fun c20 => ?_) (fun c20 => ?_)
    · refine jt_go jm_m177 21 2 (f' := (31, [(0, .inr (.inr (5, a, 0))), (1, .inl (nI p)), (2, .inl (nI (sp_bits (fun c => decide (g (38 + 5 * c) = p)) k))), (3, .inl (nI k))], [.inl ((nI (sp_bits (fun c => decide (g (38 + 5 * c) = p)) k)) ||| (nI 0))], h)) (P := True) rfl trivial ?_
      refine jt_ti (show ((nI (sp_bits (fun c => decide (g (38 + 5 * c) = p)) k)) ||| (nI 0)) = nI (sp_bits (fun c => decide (g (38 + 5 * c) = p)) k) from jx_or0 _) ?_
      refine jt_go jm_m177 23 1 (f' := (32, [(2, .inl (nI (sp_bits (fun c => decide (g (38 + 5 * c) = p)) k))), (0, .inr (.inr (5, a, 0))), (1, .inl (nI p)), (3, .inl (nI k))], [], h)) (P := True) rfl trivial ?_
      refine jt_inc jm_m177 24 (c := k) (L' := [(3, .inl (nI (k + 1))), (2, .inl (nI (sp_bits (fun c => decide (g (38 + 5 * c) = p)) k))), (0, .inr (.inr (5, a, 0))), (1, .inl (nI p))]) rfl rfl rfl rfl ?_
      refine jt_go jm_m177 25 1 (f' := (4, [(3, .inl (nI (k + 1))), (2, .inl (nI (sp_bits (fun c => decide (g (38 + 5 * c) = p)) k))), (0, .inr (.inr (5, a, 0))), (1, .inl (nI p))], [], h)) (P := True) rfl trivial ?_
      refine jt_pick (L' := [(0, .inr (.inr (5, a, 0))), (1, .inl (nI p)), (2, .inl (nI (sp_bits (fun c => decide (g (38 + 5 * c) = p)) k))), (3, .inl (nI (k + 1)))]) [2, 3, 1, 0] rfl ?_
      have e : sp_bits (fun c => decide (g (38 + 5 * c) = p)) (k + 1) = sp_bits (fun c => decide (g (38 + 5 * c) = p)) k := if_neg (fun z => c20 (of_decide_eq_true z))
      have q := nx c8
      rw [e] at q
      exact q
    · refine jt_go jm_m177 17 4 (f' := (30, [(0, .inr (.inr (5, a, 0))), (1, .inl (nI p)), (2, .inl (nI (sp_bits (fun c => decide (g (38 + 5 * c) = p)) k))), (3, .inl (nI k))], [.inl ((nI 1) <<< ((nI k) &&& 31)), .inl (nI (sp_bits (fun c => decide (g (38 + 5 * c) = p)) k))], h)) (P := True) rfl trivial ?_
      refine jt_go jm_m177 22 1 (f' := (31, [(0, .inr (.inr (5, a, 0))), (1, .inl (nI p)), (2, .inl (nI (sp_bits (fun c => decide (g (38 + 5 * c) = p)) k))), (3, .inl (nI k))], [.inl ((nI (sp_bits (fun c => decide (g (38 + 5 * c) = p)) k)) ||| ((nI 1) <<< ((nI k) &&& 31)))], h)) (P := True) rfl trivial ?_
      refine jt_ti (show ((nI (sp_bits (fun c => decide (g (38 + 5 * c) = p)) k)) ||| ((nI 1) <<< ((nI k) &&& 31))) = nI (sp_bits (fun c => decide (g (38 + 5 * c) = p)) k + 2 ^ k) from jx_orb _ (by have := jx_p32 (c := k) (by omega); omega) _ (by omega) (by rw [Nat.div_eq_of_lt bs])) ?_
      refine jt_go jm_m177 23 1 (f' := (32, [(2, .inl (nI (sp_bits (fun c => decide (g (38 + 5 * c) = p)) k + 2 ^ k))), (0, .inr (.inr (5, a, 0))), (1, .inl (nI p)), (3, .inl (nI k))], [], h)) (P := True) rfl trivial ?_
      refine jt_inc jm_m177 24 (c := k) (L' := [(3, .inl (nI (k + 1))), (2, .inl (nI (sp_bits (fun c => decide (g (38 + 5 * c) = p)) k + 2 ^ k))), (0, .inr (.inr (5, a, 0))), (1, .inl (nI p))]) rfl rfl rfl rfl ?_
      refine jt_go jm_m177 25 1 (f' := (4, [(3, .inl (nI (k + 1))), (2, .inl (nI (sp_bits (fun c => decide (g (38 + 5 * c) = p)) k + 2 ^ k))), (0, .inr (.inr (5, a, 0))), (1, .inl (nI p))], [], h)) (P := True) rfl trivial ?_
      refine jt_pick (L' := [(0, .inr (.inr (5, a, 0))), (1, .inl (nI p)), (2, .inl (nI (sp_bits (fun c => decide (g (38 + 5 * c) = p)) k + 2 ^ k))), (3, .inl (nI (k + 1)))]) [2, 3, 1, 0] rfl ?_
      have e : sp_bits (fun c => decide (g (38 + 5 * c) = p)) (k + 1) = sp_bits (fun c => decide (g (38 + 5 * c) = p)) k + 2 ^ k := if_pos (decide_eq_true c20)
      have q := nx c8
      rw [e] at q
      exact q)
set_option maxHeartbeats 4000000 in
set_option maxRecDepth 20000 in
theorem tb_catsAt {h : jm_M} {a : Nat} {g : Nat → Nat} (R : jg_rel h a g) (W : jw g) {p : Nat} (hp : p < 16) : jt_Pu 177 [.inr (.inr (5, a, 0)), .inl (nI p)] h (.inl (nI (sp_bits (fun c => decide (g (38 + 5 * c) = p)) (g 0)))) := by
  show jt_T 177 (0, [(0, .inr (.inr (5, a, 0))), (1, .inl (nI p))], [], h) _
  refine jt_go jm_m177 0 4 (f' := (4, [(3, .inl (nI 0)), (2, .inl (nI 0)), (0, .inr (.inr (5, a, 0))), (1, .inl (nI p))], [], h)) (P := True) rfl trivial ?_
  refine jt_pick (L' := [(0, .inr (.inr (5, a, 0))), (1, .inl (nI p)), (2, .inl (nI 0)), (3, .inl (nI 0))]) [2, 3, 1, 0] rfl ?_
  exact tb_catsAt_l R W hp 0 (Nat.zero_le _)
set_option maxHeartbeats 4000000 in
set_option maxRecDepth 20000 in
theorem tb_side_l {h : jm_M} {a : Nat} {g : Nat → Nat} (R : jg_rel h a g) (W : jw g) {sd : Nat} (hs : sd ≤ 1) : ∀ k, k ≤ g 0 → jt_T 212 (5, [(0, .inr (.inr (4, 0, 0))), (1, .inr (.inr (5, a, 0))), (2, .inl (nI sd)), (3, .inl (nI (sp_sum (fun c => if sp_sd (g (38 + 5 * c)) = sd then 1 else 0) k))), (4, .inl (nI k))], [], h) (fun u h' => u = some (.inl (nI (sp_sum (fun c => if sp_sd (g (38 + 5 * c)) = sd then 1 else 0) (g 0)))) ∧ h' = h) := jx_up (fun k hk nx => by
  have bn := jw_n W
  have bm := jw_m W
  have bt := jw_t W
  refine jt_go jm_m212 4 4 (f' := (10, [(0, .inr (.inr (4, 0, 0))), (1, .inr (.inr (5, a, 0))), (2, .inl (nI sd)), (3, .inl (nI (sp_sum (fun c => if sp_sd (g (38 + 5 * c)) = sd then 1 else 0) k))), (4, .inl (nI k))], [.inl (h (5, a, 0) (nI 0).toNatClampNeg), .inl (nI k)], h)) (P := vp_in (nI 0) 78 ∧ True) rfl ⟨(vp_in_nI (by omega) (by decide)), trivial⟩ ?_
  refine jt_ti (show (h (5, a, 0) (nI 0).toNatClampNeg) = nI (g 0) from jg_get R (k := 0) (nI_clamp (by omega)) (by omega)) ?_
  have bq1 := jw_n W
  refine jt_nicge jm_m212 8 (a := k) (b := g 0) (by omega) (by omega) (tgt := 42) (nxt := 13) rfl rfl rfl (fun c10 => ?_) (fun c10 => ?_)
  · refine jt_go jm_m212 25 1 (f' := (43, [(0, .inr (.inr (4, 0, 0))), (1, .inr (.inr (5, a, 0))), (2, .inl (nI sd)), (3, .inl (nI (sp_sum (fun c => if sp_sd (g (38 + 5 * c)) = sd then 1 else 0) k))), (4, .inl (nI k))], [.inl (nI (sp_sum (fun c => if sp_sd (g (38 + 5 * c)) = sd then 1 else 0) k))], h)) (P := True) rfl trivial ?_
    refine jt_iret jm_m212 26 rfl ?_
    have e : k = g 0 := by omega
    subst e
    exact ⟨rfl, rfl⟩
  · refine jt_go jm_m212 9 4 (f' := (18, [(0, .inr (.inr (4, 0, 0))), (1, .inr (.inr (5, a, 0))), (2, .inl (nI sd)), (3, .inl (nI (sp_sum (fun c => if sp_sd (g (38 + 5 * c)) = sd then 1 else 0) k))), (4, .inl (nI k))], [.inl (nI 2), .inl (nI k), .inr (.inr (5, a, 0)), .inl (nI (sp_sum (fun c => if sp_sd (g (38 + 5 * c)) = sd then 1 else 0) k))], h)) (P := True) rfl trivial ?_
    refine jt_callp (w := .inl (nI (38 + 5 * k))) jm_m212 13 (mi' := 147) (as := [.inl (nI k), .inl (nI 2)]) (rest := [.inr (.inr (5, a, 0)), .inl (nI (sp_sum (fun c => if sp_sd (g (38 + 5 * c)) = sd then 1 else 0) k))]) (nxt := 21) rfl rfl jm_m147 rfl rfl (tb_ofC (k := 38 + 5 * k) (by omega)) ?_
    refine jt_go jm_m212 14 1 (f' := (22, [(0, .inr (.inr (4, 0, 0))), (1, .inr (.inr (5, a, 0))), (2, .inl (nI sd)), (3, .inl (nI (sp_sum (fun c => if sp_sd (g (38 + 5 * c)) = sd then 1 else 0) k))), (4, .inl (nI k))], [.inl (h (5, a, 0) (nI (38 + 5 * k)).toNatClampNeg), .inl (nI (sp_sum (fun c => if sp_sd (g (38 + 5 * c)) = sd then 1 else 0) k))], h)) (P := vp_in (nI (38 + 5 * k)) 78 ∧ True) rfl ⟨(vp_in_nI (by omega) (by decide)), trivial⟩ ?_
    refine jt_ti (show (h (5, a, 0) (nI (38 + 5 * k)).toNatClampNeg) = nI (g (38 + 5 * k)) from jg_get R (k := 38 + 5 * k) (nI_clamp (by omega)) (by omega)) ?_
    have bq2 := jw_at W (c := k) (by omega)
    refine jt_callp (w := .inl (nI (sp_sd (g (38 + 5 * k))))) jm_m212 15 (mi' := 154) (as := [.inl (nI (g (38 + 5 * k)))]) (rest := [.inl (nI (sp_sum (fun c => if sp_sd (g (38 + 5 * c)) = sd then 1 else 0) k))]) (nxt := 25) rfl rfl jm_m154 rfl rfl (tb_sideOf (by omega)) ?_
    have bq3 := sp_sd_le (g (38 + 5 * k))
    refine jt_go jm_m212 16 1 (f' := (26, [(0, .inr (.inr (4, 0, 0))), (1, .inr (.inr (5, a, 0))), (2, .inl (nI sd)), (3, .inl (nI (sp_sum (fun c => if sp_sd (g (38 + 5 * c)) = sd then 1 else 0) k))), (4, .inl (nI k))], [.inl (nI sd), .inl (nI (sp_sd (g (38 + 5 * k)))), .inl (nI (sp_sum (fun c => if sp_sd (g (38 + 5 * c)) = sd then 1 else 0) k))], h)) (P := True) rfl trivial ?_
    refine jt_nicne jm_m212 17 (a := sp_sd (g (38 + 5 * k))) (b := sd) (by omega) (by omega) (tgt := 33) (nxt := 29) rfl rfl rfl (fun c26 => ?_) (fun c26 => ?_)
    · refine jt_go jm_m212 20 2 (f' := (35, [(0, .inr (.inr (4, 0, 0))), (1, .inr (.inr (5, a, 0))), (2, .inl (nI sd)), (3, .inl (nI (sp_sum (fun c => if sp_sd (g (38 + 5 * c)) = sd then 1 else 0) k))), (4, .inl (nI k))], [.inl ((nI (sp_sum (fun c => if sp_sd (g (38 + 5 * c)) = sd then 1 else 0) k)) + (nI 0))], h)) (P := True) rfl trivial ?_
      refine jt_ti (show ((nI (sp_sum (fun c => if sp_sd (g (38 + 5 * c)) = sd then 1 else 0) k)) + (nI 0)) = nI (sp_sum (fun c => if sp_sd (g (38 + 5 * c)) = sd then 1 else 0) k) from Int32.add_zero _) ?_
      refine jt_go jm_m212 22 1 (f' := (36, [(3, .inl (nI (sp_sum (fun c => if sp_sd (g (38 + 5 * c)) = sd then 1 else 0) k))), (0, .inr (.inr (4, 0, 0))), (1, .inr (.inr (5, a, 0))), (2, .inl (nI sd)), (4, .inl (nI k))], [], h)) (P := True) rfl trivial ?_
      refine jt_inc jm_m212 23 (c := k) (L' := [(4, .inl (nI (k + 1))), (3, .inl (nI (sp_sum (fun c => if sp_sd (g (38 + 5 * c)) = sd then 1 else 0) k))), (0, .inr (.inr (4, 0, 0))), (1, .inr (.inr (5, a, 0))), (2, .inl (nI sd))]) rfl rfl rfl rfl ?_
      refine jt_go jm_m212 24 1 (f' := (5, [(4, .inl (nI (k + 1))), (3, .inl (nI (sp_sum (fun c => if sp_sd (g (38 + 5 * c)) = sd then 1 else 0) k))), (0, .inr (.inr (4, 0, 0))), (1, .inr (.inr (5, a, 0))), (2, .inl (nI sd))], [], h)) (P := True) rfl trivial ?_
      refine jt_pick (L' := [(0, .inr (.inr (4, 0, 0))), (1, .inr (.inr (5, a, 0))), (2, .inl (nI sd)), (3, .inl (nI (sp_sum (fun c => if sp_sd (g (38 + 5 * c)) = sd then 1 else 0) k))), (4, .inl (nI (k + 1)))]) [2, 3, 4, 1, 0] rfl ?_
      have e : sp_sum (fun c => if sp_sd (g (38 + 5 * c)) = sd then 1 else 0) (k + 1) = sp_sum (fun c => if sp_sd (g (38 + 5 * c)) = sd then 1 else 0) k := by show sp_sum (fun c => if sp_sd (g (38 + 5 * c)) = sd then 1 else 0) k + (if _ then _ else _) = _; rw [if_neg c26, Nat.add_zero]
      have q := nx c10
      rw [e] at q
      exact q
    · refine jt_go jm_m212 18 2 (f' := (34, [(0, .inr (.inr (4, 0, 0))), (1, .inr (.inr (5, a, 0))), (2, .inl (nI sd)), (3, .inl (nI (sp_sum (fun c => if sp_sd (g (38 + 5 * c)) = sd then 1 else 0) k))), (4, .inl (nI k))], [.inl (nI 1), .inl (nI (sp_sum (fun c => if sp_sd (g (38 + 5 * c)) = sd then 1 else 0) k))], h)) (P := True) rfl trivial ?_
      refine jt_go jm_m212 21 1 (f' := (35, [(0, .inr (.inr (4, 0, 0))), (1, .inr (.inr (5, a, 0))), (2, .inl (nI sd)), (3, .inl (nI (sp_sum (fun c => if sp_sd (g (38 + 5 * c)) = sd then 1 else 0) k))), (4, .inl (nI k))], [.inl ((nI (sp_sum (fun c => if sp_sd (g (38 + 5 * c)) = sd then 1 else 0) k)) + (nI 1))], h)) (P := True) rfl trivial ?_
      refine jt_ti (show ((nI (sp_sum (fun c => if sp_sd (g (38 + 5 * c)) = sd then 1 else 0) k)) + (nI 1)) = nI (sp_sum (fun c => if sp_sd (g (38 + 5 * c)) = sd then 1 else 0) k + 1) from nI_add _ _) ?_
      refine jt_go jm_m212 22 1 (f' := (36, [(3, .inl (nI (sp_sum (fun c => if sp_sd (g (38 + 5 * c)) = sd then 1 else 0) k + 1))), (0, .inr (.inr (4, 0, 0))), (1, .inr (.inr (5, a, 0))), (2, .inl (nI sd)), (4, .inl (nI k))], [], h)) (P := True) rfl trivial ?_
      refine jt_inc jm_m212 23 (c := k) (L' := [(4, .inl (nI (k + 1))), (3, .inl (nI (sp_sum (fun c => if sp_sd (g (38 + 5 * c)) = sd then 1 else 0) k + 1))), (0, .inr (.inr (4, 0, 0))), (1, .inr (.inr (5, a, 0))), (2, .inl (nI sd))]) rfl rfl rfl rfl ?_
      refine jt_go jm_m212 24 1 (f' := (5, [(4, .inl (nI (k + 1))), (3, .inl (nI (sp_sum (fun c => if sp_sd (g (38 + 5 * c)) = sd then 1 else 0) k + 1))), (0, .inr (.inr (4, 0, 0))), (1, .inr (.inr (5, a, 0))), (2, .inl (nI sd))], [], h)) (P := True) rfl trivial ?_
      refine jt_pick (L' := [(0, .inr (.inr (4, 0, 0))), (1, .inr (.inr (5, a, 0))), (2, .inl (nI sd)), (3, .inl (nI (sp_sum (fun c => if sp_sd (g (38 + 5 * c)) = sd then 1 else 0) k + 1))), (4, .inl (nI (k + 1)))]) [2, 3, 4, 1, 0] rfl ?_
      have e : sp_sum (fun c => if sp_sd (g (38 + 5 * c)) = sd then 1 else 0) (k + 1) = sp_sum (fun c => if sp_sd (g (38 + 5 * c)) = sd then 1 else 0) k + 1 := by show sp_sum (fun c => if sp_sd (g (38 + 5 * c)) = sd then 1 else 0) k + (if _ then _ else _) = _; rw [if_pos c26]
      have q := nx c10
      rw [e] at q
      exact q)
set_option maxHeartbeats 4000000 in
set_option maxRecDepth 20000 in
theorem tb_side {h : jm_M} {a : Nat} {g : Nat → Nat} (R : jg_rel h a g) (W : jw g) {sd : Nat} (hs : sd ≤ 1) : jt_Pu 212 [.inr (.inr (4, 0, 0)), .inr (.inr (5, a, 0)), .inl (nI sd)] h (.inl (nI (sp_sum (fun c => if sp_sd (g (38 + 5 * c)) = sd then 1 else 0) (g 0)))) := by
  show jt_T 212 (0, [(0, .inr (.inr (4, 0, 0))), (1, .inr (.inr (5, a, 0))), (2, .inl (nI sd))], [], h) _
  refine jt_go jm_m212 0 4 (f' := (5, [(4, .inl (nI 0)), (3, .inl (nI 0)), (0, .inr (.inr (4, 0, 0))), (1, .inr (.inr (5, a, 0))), (2, .inl (nI sd))], [], h)) (P := True) rfl trivial ?_
  refine jt_pick (L' := [(0, .inr (.inr (4, 0, 0))), (1, .inr (.inr (5, a, 0))), (2, .inl (nI sd)), (3, .inl (nI 0)), (4, .inl (nI 0))]) [2, 3, 4, 1, 0] rfl ?_
  exact tb_side_l R W hs 0 (Nat.zero_le _)
theorem jx_cpy {f g : Nat → Int32} {p : Nat} {x : Int32} (hp : p < x.toNatClampNeg) : va_cpy f g (nI 0).toNatClampNeg (nI 0).toNatClampNeg x.toNatClampNeg p = f p := by
  have h0 : (nI 0).toNatClampNeg = 0 := nI_clamp (by decide)
  unfold va_cpy
  rw [h0, if_pos (by omega)]
  congr 1
  omega
set_option maxHeartbeats 4000000 in
set_option maxRecDepth 20000 in
theorem ta_becomes {h : jm_M} {i j : Nat} {g : Nat → Nat} (R : jf_rel h i g) (W : jw g) (hij : ¬ i = j) : jt_T 6 (0, [(0, .inr (.inr (2, j, 0))), (1, .inr (.inr (2, i, 0)))], [], h) (fun u h' => u = none ∧ jf_rel h' j g ∧ jf_fr j h h') := by
  refine jt_goM jm_m6 0 8 (pc' := 15) (L' := [(0, .inr (.inr (2, j, 0))), (1, .inr (.inr (2, i, 0)))]) (st' := []) (m' := jm_set h (2, j, 1) (va_cpy (h (2, i, 1)) (h (2, j, 1)) (nI 0).toNatClampNeg (nI 0).toNatClampNeg (nI 6).toNatClampNeg)) (P := (¬ (nI 0) < 0 ∧ ¬ (nI 0) < 0 ∧ ¬ (nI 6) < 0 ∧ (nI 0).toNatClampNeg + (nI 6).toNatClampNeg ≤ 6 ∧ (nI 0).toNatClampNeg + (nI 6).toNatClampNeg ≤ 6) ∧ True) rfl ⟨(by decide), trivial⟩ (fun h1 eh1 => ?_)
  have Fh1 : jf_fr j h h1 := by rw [eh1]; exact jf_fr_set jf_fr_rf ⟨Or.inl rfl, rfl⟩
  have Rh1 : jf_rel h1 i g := jf_mov R (fun k hk => Fh1 k (fun z => hij (hk.2.symm.trans z.2)))
  refine jt_goM jm_m6 8 8 (pc' := 30) (L' := [(0, .inr (.inr (2, j, 0))), (1, .inr (.inr (2, i, 0)))]) (st' := []) (m' := jm_set h1 (2, j, 2) (va_cpy (h1 (2, i, 2)) (h1 (2, j, 2)) (nI 0).toNatClampNeg (nI 0).toNatClampNeg (nI 6).toNatClampNeg)) (P := (¬ (nI 0) < 0 ∧ ¬ (nI 0) < 0 ∧ ¬ (nI 6) < 0 ∧ (nI 0).toNatClampNeg + (nI 6).toNatClampNeg ≤ 6 ∧ (nI 0).toNatClampNeg + (nI 6).toNatClampNeg ≤ 6) ∧ True) rfl ⟨(by decide), trivial⟩ (fun h2 eh2 => ?_)
  have Fh2 : jf_fr j h h2 := by rw [eh2]; exact jf_fr_set Fh1 ⟨Or.inl rfl, rfl⟩
  have Rh2 : jf_rel h2 i g := jf_mov R (fun k hk => Fh2 k (fun z => hij (hk.2.symm.trans z.2)))
  refine jt_goM jm_m6 16 8 (pc' := 45) (L' := [(0, .inr (.inr (2, j, 0))), (1, .inr (.inr (2, i, 0)))]) (st' := []) (m' := jm_set h2 (2, j, 3) (va_cpy (h2 (2, i, 3)) (h2 (2, j, 3)) (nI 0).toNatClampNeg (nI 0).toNatClampNeg (nI 6).toNatClampNeg)) (P := (¬ (nI 0) < 0 ∧ ¬ (nI 0) < 0 ∧ ¬ (nI 6) < 0 ∧ (nI 0).toNatClampNeg + (nI 6).toNatClampNeg ≤ 6 ∧ (nI 0).toNatClampNeg + (nI 6).toNatClampNeg ≤ 6) ∧ True) rfl ⟨(by decide), trivial⟩ (fun h3 eh3 => ?_)
  have Fh3 : jf_fr j h h3 := by rw [eh3]; exact jf_fr_set Fh2 ⟨Or.inl rfl, rfl⟩
  have Rh3 : jf_rel h3 i g := jf_mov R (fun k hk => Fh3 k (fun z => hij (hk.2.symm.trans z.2)))
  refine jt_goM jm_m6 24 8 (pc' := 60) (L' := [(0, .inr (.inr (2, j, 0))), (1, .inr (.inr (2, i, 0)))]) (st' := []) (m' := jm_set h3 (2, j, 4) (va_cpy (h3 (2, i, 4)) (h3 (2, j, 4)) (nI 0).toNatClampNeg (nI 0).toNatClampNeg (nI 6).toNatClampNeg)) (P := (¬ (nI 0) < 0 ∧ ¬ (nI 0) < 0 ∧ ¬ (nI 6) < 0 ∧ (nI 0).toNatClampNeg + (nI 6).toNatClampNeg ≤ 6 ∧ (nI 0).toNatClampNeg + (nI 6).toNatClampNeg ≤ 6) ∧ True) rfl ⟨(by decide), trivial⟩ (fun h4 eh4 => ?_)
  have Fh4 : jf_fr j h h4 := by rw [eh4]; exact jf_fr_set Fh3 ⟨Or.inl rfl, rfl⟩
  have Rh4 : jf_rel h4 i g := jf_mov R (fun k hk => Fh4 k (fun z => hij (hk.2.symm.trans z.2)))
  refine jt_goM jm_m6 32 8 (pc' := 75) (L' := [(0, .inr (.inr (2, j, 0))), (1, .inr (.inr (2, i, 0)))]) (st' := []) (m' := jm_set h4 (2, j, 5) (va_cpy (h4 (2, i, 5)) (h4 (2, j, 5)) (nI 0).toNatClampNeg (nI 0).toNatClampNeg (nI 6).toNatClampNeg)) (P := (¬ (nI 0) < 0 ∧ ¬ (nI 0) < 0 ∧ ¬ (nI 6) < 0 ∧ (nI 0).toNatClampNeg + (nI 6).toNatClampNeg ≤ 6 ∧ (nI 0).toNatClampNeg + (nI 6).toNatClampNeg ≤ 6) ∧ True) rfl ⟨(by decide), trivial⟩ (fun h5 eh5 => ?_)
  have Fh5 : jf_fr j h h5 := by rw [eh5]; exact jf_fr_set Fh4 ⟨Or.inl rfl, rfl⟩
  have Rh5 : jf_rel h5 i g := jf_mov R (fun k hk => Fh5 k (fun z => hij (hk.2.symm.trans z.2)))
  refine jt_goM jm_m6 40 8 (pc' := 90) (L' := [(0, .inr (.inr (2, j, 0))), (1, .inr (.inr (2, i, 0)))]) (st' := []) (m' := jm_set h5 (2, j, 6) (va_cpy (h5 (2, i, 6)) (h5 (2, j, 6)) (nI 0).toNatClampNeg (nI 0).toNatClampNeg (nI 6).toNatClampNeg)) (P := (¬ (nI 0) < 0 ∧ ¬ (nI 0) < 0 ∧ ¬ (nI 6) < 0 ∧ (nI 0).toNatClampNeg + (nI 6).toNatClampNeg ≤ 6 ∧ (nI 0).toNatClampNeg + (nI 6).toNatClampNeg ≤ 6) ∧ True) rfl ⟨(by decide), trivial⟩ (fun h6 eh6 => ?_)
  have Fh6 : jf_fr j h h6 := by rw [eh6]; exact jf_fr_set Fh5 ⟨Or.inl rfl, rfl⟩
  have Rh6 : jf_rel h6 i g := jf_mov R (fun k hk => Fh6 k (fun z => hij (hk.2.symm.trans z.2)))
  refine jt_goM jm_m6 48 8 (pc' := 105) (L' := [(0, .inr (.inr (2, j, 0))), (1, .inr (.inr (2, i, 0)))]) (st' := []) (m' := jm_set h6 (6, j, 0) (va_cpy (h6 (6, i, 0)) (h6 (6, j, 0)) (nI 0).toNatClampNeg (nI 0).toNatClampNeg (nI 16).toNatClampNeg)) (P := (¬ (nI 0) < 0 ∧ ¬ (nI 0) < 0 ∧ ¬ (nI 16) < 0 ∧ (nI 0).toNatClampNeg + (nI 16).toNatClampNeg ≤ 16 ∧ (nI 0).toNatClampNeg + (nI 16).toNatClampNeg ≤ 16) ∧ True) rfl ⟨(by decide), trivial⟩ (fun h7 eh7 => ?_)
  have Fh7 : jf_fr j h h7 := by rw [eh7]; exact jf_fr_set Fh6 ⟨Or.inr rfl, rfl⟩
  have Rh7 : jf_rel h7 i g := jf_mov R (fun k hk => Fh7 k (fun z => hij (hk.2.symm.trans z.2)))
  refine jt_goM jm_m6 56 8 (pc' := 120) (L' := [(0, .inr (.inr (2, j, 0))), (1, .inr (.inr (2, i, 0)))]) (st' := []) (m' := jm_set h7 (6, j, 1) (va_cpy (h7 (6, i, 1)) (h7 (6, j, 1)) (nI 0).toNatClampNeg (nI 0).toNatClampNeg (nI 16).toNatClampNeg)) (P := (¬ (nI 0) < 0 ∧ ¬ (nI 0) < 0 ∧ ¬ (nI 16) < 0 ∧ (nI 0).toNatClampNeg + (nI 16).toNatClampNeg ≤ 16 ∧ (nI 0).toNatClampNeg + (nI 16).toNatClampNeg ≤ 16) ∧ True) rfl ⟨(by decide), trivial⟩ (fun h8 eh8 => ?_)
  have Fh8 : jf_fr j h h8 := by rw [eh8]; exact jf_fr_set Fh7 ⟨Or.inr rfl, rfl⟩
  have Rh8 : jf_rel h8 i g := jf_mov R (fun k hk => Fh8 k (fun z => hij (hk.2.symm.trans z.2)))
  refine jt_go jm_m6 64 3 (f' := (125, [(0, .inr (.inr (2, j, 0))), (1, .inr (.inr (2, i, 0)))], [.inl (h8 (2, i, 0) 9), .inr (.inr (2, j, 0))], h8)) (P := True) rfl trivial ?_
  refine jt_ti (show (h8 (2, i, 0) 9) = nI (g 0) from jf_cats Rh8) ?_
  have bq1 := jw_n W
  refine jt_goM jm_m6 67 1 (pc' := 128) (L' := [(0, .inr (.inr (2, j, 0))), (1, .inr (.inr (2, i, 0)))]) (st' := []) (m' := jm_set h8 (2, j, 0) (upd (h8 (2, j, 0)) 9 (nI (g 0)))) (P := True) rfl trivial (fun h9 eh9 => ?_)
  have Fh9 : jf_fr j h h9 := by rw [eh9]; exact jf_fr_set Fh8 ⟨Or.inl rfl, rfl⟩
  have Rh9 : jf_rel h9 i g := jf_mov R (fun k hk => Fh9 k (fun z => hij (hk.2.symm.trans z.2)))
  refine jt_go jm_m6 68 3 (f' := (133, [(0, .inr (.inr (2, j, 0))), (1, .inr (.inr (2, i, 0)))], [.inl (h9 (2, i, 0) 10), .inr (.inr (2, j, 0))], h9)) (P := True) rfl trivial ?_
  refine jt_ti (show (h9 (2, i, 0) 10) = nI (g 1) from jf_men Rh9) ?_
  have bq2 := jw_m W
  refine jt_goM jm_m6 71 1 (pc' := 136) (L' := [(0, .inr (.inr (2, j, 0))), (1, .inr (.inr (2, i, 0)))]) (st' := []) (m' := jm_set h9 (2, j, 0) (upd (h9 (2, j, 0)) 10 (nI (g 1)))) (P := True) rfl trivial (fun h10 eh10 => ?_)
  have Fh10 : jf_fr j h h10 := by rw [eh10]; exact jf_fr_set Fh9 ⟨Or.inl rfl, rfl⟩
  have Rh10 : jf_rel h10 i g := jf_mov R (fun k hk => Fh10 k (fun z => hij (hk.2.symm.trans z.2)))
  refine jt_go jm_m6 72 3 (f' := (141, [(0, .inr (.inr (2, j, 0))), (1, .inr (.inr (2, i, 0)))], [.inl (h10 (2, i, 0) 11), .inr (.inr (2, j, 0))], h10)) (P := True) rfl trivial ?_
  refine jt_ti (show (h10 (2, i, 0) 11) = nI (g 2) from jf_hour Rh10) ?_
  have bq3 := jw_t W
  refine jt_goM jm_m6 75 1 (pc' := 144) (L' := [(0, .inr (.inr (2, j, 0))), (1, .inr (.inr (2, i, 0)))]) (st' := []) (m' := jm_set h10 (2, j, 0) (upd (h10 (2, j, 0)) 11 (nI (g 2)))) (P := True) rfl trivial (fun h11 eh11 => ?_)
  have Fh11 : jf_fr j h h11 := by rw [eh11]; exact jf_fr_set Fh10 ⟨Or.inl rfl, rfl⟩
  have Rh11 : jf_rel h11 i g := jf_mov R (fun k hk => Fh11 k (fun z => hij (hk.2.symm.trans z.2)))
  refine jt_go jm_m6 76 3 (f' := (149, [(0, .inr (.inr (2, j, 0))), (1, .inr (.inr (2, i, 0)))], [.inl (h11 (2, i, 0) 12), .inr (.inr (2, j, 0))], h11)) (P := True) rfl trivial ?_
  refine jt_ti (show (h11 (2, i, 0) 12) = nI (g 3) from jf_day Rh11) ?_
  refine jt_goM jm_m6 79 1 (pc' := 152) (L' := [(0, .inr (.inr (2, j, 0))), (1, .inr (.inr (2, i, 0)))]) (st' := []) (m' := jm_set h11 (2, j, 0) (upd (h11 (2, j, 0)) 12 (nI (g 3)))) (P := True) rfl trivial (fun h12 eh12 => ?_)
  have Fh12 : jf_fr j h h12 := by rw [eh12]; exact jf_fr_set Fh11 ⟨Or.inl rfl, rfl⟩
  have Rh12 : jf_rel h12 i g := jf_mov R (fun k hk => Fh12 k (fun z => hij (hk.2.symm.trans z.2)))
  refine jt_go jm_m6 80 3 (f' := (157, [(0, .inr (.inr (2, j, 0))), (1, .inr (.inr (2, i, 0)))], [.inl (h12 (2, i, 0) 13), .inr (.inr (2, j, 0))], h12)) (P := True) rfl trivial ?_
  refine jt_ti (show (h12 (2, i, 0) 13) = nI (sp_pb g) from jf_pass Rh12) ?_
  have bq4 := jw_pb W
  refine jt_goM jm_m6 83 1 (pc' := 160) (L' := [(0, .inr (.inr (2, j, 0))), (1, .inr (.inr (2, i, 0)))]) (st' := []) (m' := jm_set h12 (2, j, 0) (upd (h12 (2, j, 0)) 13 (nI (sp_pb g)))) (P := True) rfl trivial (fun h13 eh13 => ?_)
  have Fh13 : jf_fr j h h13 := by rw [eh13]; exact jf_fr_set Fh12 ⟨Or.inl rfl, rfl⟩
  have Rh13 : jf_rel h13 i g := jf_mov R (fun k hk => Fh13 k (fun z => hij (hk.2.symm.trans z.2)))
  refine jt_go jm_m6 84 3 (f' := (165, [(0, .inr (.inr (2, j, 0))), (1, .inr (.inr (2, i, 0)))], [.inl (h13 (2, i, 0) 14), .inr (.inr (2, j, 0))], h13)) (P := True) rfl trivial ?_
  refine jt_tn (fun x1 ex1 => ?_)
  refine jt_goM jm_m6 87 1 (pc' := 168) (L' := [(0, .inr (.inr (2, j, 0))), (1, .inr (.inr (2, i, 0)))]) (st' := []) (m' := jm_set h13 (2, j, 0) (upd (h13 (2, j, 0)) 14 x1)) (P := True) rfl trivial (fun h14 eh14 => ?_)
  have Fh14 : jf_fr j h h14 := by rw [eh14]; exact jf_fr_set Fh13 ⟨Or.inl rfl, rfl⟩
  have Rh14 : jf_rel h14 i g := jf_mov R (fun k hk => Fh14 k (fun z => hij (hk.2.symm.trans z.2)))
  refine jt_vret jm_m6 88 rfl ?_
  refine ⟨rfl, ?_, Fh14⟩
  refine ⟨?_, ?_, ?_, ?_, ?_, ?_, ?_, ?_, ?_, ?_, ?_, ?_, ?_⟩
  · rw [eh14, jm_set_eq, jx_ne (by decide), eh13, jm_set_eq, jx_ne (by decide), eh12, jm_set_eq, jx_ne (by decide), eh11, jm_set_eq, jx_ne (by decide), eh10, jm_set_eq, jx_ne (by decide), eh9, jm_set_eq, jx_eq]
  · rw [eh14, jm_set_eq, jx_ne (by decide), eh13, jm_set_eq, jx_ne (by decide), eh12, jm_set_eq, jx_ne (by decide), eh11, jm_set_eq, jx_ne (by decide), eh10, jm_set_eq, jx_eq]
  · rw [eh14, jm_set_eq, jx_ne (by decide), eh13, jm_set_eq, jx_ne (by decide), eh12, jm_set_eq, jx_ne (by decide), eh11, jm_set_eq, jx_eq]
  · rw [eh14, jm_set_eq, jx_ne (by decide), eh13, jm_set_eq, jx_ne (by decide), eh12, jm_set_eq, jx_eq]
  · rw [eh14, jm_set_eq, jx_ne (by decide), eh13, jm_set_eq, jx_eq]
  · intro p hp
    rw [eh14, jm_set_ne (by simp), eh13, jm_set_ne (by simp), eh12, jm_set_ne (by simp), eh11, jm_set_ne (by simp), eh10, jm_set_ne (by simp), eh9, jm_set_ne (by simp), eh8, jm_set_ne (by simp), eh7, jm_set_eq]
    exact (jx_cpy (x := nI 16) (by rw [nI_clamp (by decide)]; exact hp)).trans (Rh6.2.2.2.2.2.1 p hp)
  · intro p hp
    rw [eh14, jm_set_ne (by simp), eh13, jm_set_ne (by simp), eh12, jm_set_ne (by simp), eh11, jm_set_ne (by simp), eh10, jm_set_ne (by simp), eh9, jm_set_ne (by simp), eh8, jm_set_eq]
    exact (jx_cpy (x := nI 16) (by rw [nI_clamp (by decide)]; exact hp)).trans (Rh7.2.2.2.2.2.2.1 p hp)
  · intro p hp
    rw [eh14, jm_set_ne (by simp), eh13, jm_set_ne (by simp), eh12, jm_set_ne (by simp), eh11, jm_set_ne (by simp), eh10, jm_set_ne (by simp), eh9, jm_set_ne (by simp), eh8, jm_set_ne (by simp), eh7, jm_set_ne (by simp), eh6, jm_set_ne (by simp), eh5, jm_set_ne (by simp), eh4, jm_set_ne (by simp), eh3, jm_set_ne (by simp), eh2, jm_set_ne (by simp), eh1, jm_set_eq]
    exact (jx_cpy (x := nI 6) (by rw [nI_clamp (by decide)]; exact hp)).trans (R.2.2.2.2.2.2.2.1 p hp)
  · intro p hp
    rw [eh14, jm_set_ne (by simp), eh13, jm_set_ne (by simp), eh12, jm_set_ne (by simp), eh11, jm_set_ne (by simp), eh10, jm_set_ne (by simp), eh9, jm_set_ne (by simp), eh8, jm_set_ne (by simp), eh7, jm_set_ne (by simp), eh6, jm_set_ne (by simp), eh5, jm_set_ne (by simp), eh4, jm_set_ne (by simp), eh3, jm_set_ne (by simp), eh2, jm_set_eq]
    exact (jx_cpy (x := nI 6) (by rw [nI_clamp (by decide)]; exact hp)).trans (Rh1.2.2.2.2.2.2.2.2.1 p hp)
  · intro p hp
    rw [eh14, jm_set_ne (by simp), eh13, jm_set_ne (by simp), eh12, jm_set_ne (by simp), eh11, jm_set_ne (by simp), eh10, jm_set_ne (by simp), eh9, jm_set_ne (by simp), eh8, jm_set_ne (by simp), eh7, jm_set_ne (by simp), eh6, jm_set_ne (by simp), eh5, jm_set_ne (by simp), eh4, jm_set_ne (by simp), eh3, jm_set_eq]
    exact (jx_cpy (x := nI 6) (by rw [nI_clamp (by decide)]; exact hp)).trans (Rh2.2.2.2.2.2.2.2.2.2.1 p hp)
  · intro p hp
    rw [eh14, jm_set_ne (by simp), eh13, jm_set_ne (by simp), eh12, jm_set_ne (by simp), eh11, jm_set_ne (by simp), eh10, jm_set_ne (by simp), eh9, jm_set_ne (by simp), eh8, jm_set_ne (by simp), eh7, jm_set_ne (by simp), eh6, jm_set_ne (by simp), eh5, jm_set_ne (by simp), eh4, jm_set_eq]
    exact (jx_cpy (x := nI 6) (by rw [nI_clamp (by decide)]; exact hp)).trans (Rh3.2.2.2.2.2.2.2.2.2.2.1 p hp)
  · intro p hp
    rw [eh14, jm_set_ne (by simp), eh13, jm_set_ne (by simp), eh12, jm_set_ne (by simp), eh11, jm_set_ne (by simp), eh10, jm_set_ne (by simp), eh9, jm_set_ne (by simp), eh8, jm_set_ne (by simp), eh7, jm_set_ne (by simp), eh6, jm_set_ne (by simp), eh5, jm_set_eq]
    exact (jx_cpy (x := nI 6) (by rw [nI_clamp (by decide)]; exact hp)).trans (Rh4.2.2.2.2.2.2.2.2.2.2.2.1 p hp)
  · intro p hp
    rw [eh14, jm_set_ne (by simp), eh13, jm_set_ne (by simp), eh12, jm_set_ne (by simp), eh11, jm_set_ne (by simp), eh10, jm_set_ne (by simp), eh9, jm_set_ne (by simp), eh8, jm_set_ne (by simp), eh7, jm_set_ne (by simp), eh6, jm_set_eq]
    exact (jx_cpy (x := nI 6) (by rw [nI_clamp (by decide)]; exact hp)).trans (Rh5.2.2.2.2.2.2.2.2.2.2.2.2 p hp)
