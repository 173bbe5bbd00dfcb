/-! TEXT: doing a statement. -/
set_option maxHeartbeats 4000000 in
set_option maxRecDepth 20000 in
theorem tk_bad {h : jm_M} {s : Nat → Nat → Nat} {e : Nat → Nat → Int32} (K : jk_rel h s e) (Y : kw s) (B : ke s e) {d : Nat} (hd : d ≤ 7) (qa : s d 0 = 2) (q3 : s d 3 = 0)  : jt_Pu 58 [.inr (.inr (3, d, 0))] h (.inl (tx_v (tx_bad s e d (s d 4 + 1) 0))) := by
  show jt_T 58 (0, [(0, .inr (.inr (3, d, 0)))], [], h) _
  refine jt_go jm_m58 0 2 (f' := (2, [(1, .inl (nI 0)), (0, .inr (.inr (3, d, 0)))], [], h)) (P := True) rfl trivial ?_
  refine jt_pick (L' := [(1, .inl (nI 0)), (0, .inr (.inr (3, d, 0)))]) [0, 1] rfl ?_
  exact tk_bad_n K Y B hd qa q3 _ 0 (by omega) (by omega) (by omega)
set_option maxHeartbeats 4000000 in
set_option maxRecDepth 20000 in
theorem tk_len {h : jm_M} {c : Nat} (hc : c < 2 ^ 31) : jt_Pu 57 [.inl (nI c)] h (.inl (nI (1 + dg c + 1))) := by
  show jt_T 57 (0, [(0, .inl (nI c))], [], h) _
  refine jt_go jm_m57 0 2 (f' := (2, [(0, .inl (nI c))], [.inl (nI c), .inl (nI 1)], h)) (P := True) rfl trivial ?_
  refine jt_callp (w := .inl (nI (dg c))) jm_m57 2 (mi' := 56) (as := [.inl (nI c)]) (rest := [.inl (nI 1)]) (nxt := 5) rfl rfl jm_m56 rfl rfl (tk_dig (by omega)) ?_
  have bdc := dg_le c
  refine jt_go jm_m57 3 1 (f' := (6, [(0, .inl (nI c))], [.inl ((nI 1) + (nI (dg c)))], h)) (P := True) rfl trivial ?_
  refine jt_ti (show ((nI 1) + (nI (dg c))) = nI (1 + dg c) from nI_add _ _) ?_
  refine jt_go jm_m57 4 2 (f' := (8, [(0, .inl (nI c))], [.inl ((nI (1 + dg c)) + (nI 1))], h)) (P := True) rfl trivial ?_
  refine jt_ti (show ((nI (1 + dg c)) + (nI 1)) = nI (1 + dg c + 1) from nI_add _ _) ?_
  refine jt_iret jm_m57 6 rfl ?_
  exact ⟨rfl, rfl⟩
