/-! SHELVES: cost. -/
def sp_cost (k f : Nat) : Nat := if k = 1 then 3 + f else if k = 2 then 2 else if k = 3 then 8 else if k = 4 then (3 + f) / 2 else if k = 5 then 16 else if k = 6 then 2 + f else if k = 7 then 0 else 3
theorem sp_cost_lt {k f : Nat} (hf : f < 10) : sp_cost k f ≤ 16 := by unfold sp_cost; split; omega; split; omega; split; omega; split; omega; split; omega; split; omega; split <;> omega
set_option maxRecDepth 100000 in
theorem jx_d2 : ∀ f, f < 20 → nI f / nI 2 = nI (f / 2) := by decide +kernel
def za_cost (s : Nat → Nat → Nat) (x : Int32) : Int32 := if zr_h 1 s x = nI 0 then nI (sp_cost (s x.toNatClampNeg 1) (s x.toNatClampNeg 2)) else zr_h 1 s x
set_option maxHeartbeats 4000000 in
set_option maxRecDepth 20000 in
theorem tp_4_0 {h : jm_M} {f : Nat} (hf : f < 10) : jt_Pu 4 [.inr (.inr (1, 0, 0)), .inl (nI f)] h (.inl (nI 3)) := by
  show jt_T 4 (0, [(0, .inr (.inr (1, 0, 0))), (1, .inl (nI f))], [], h) _
  refine jt_go jm_m4 0 1 (f' := (1, [(0, .inr (.inr (1, 0, 0))), (1, .inl (nI f))], [.inl (nI 3)], h)) (P := True) rfl trivial ?_
  refine jt_iret jm_m4 1 rfl ?_
  exact ⟨rfl, rfl⟩
set_option maxHeartbeats 4000000 in
set_option maxRecDepth 20000 in
theorem tp_5_0 {h : jm_M} {f : Nat} (hf : f < 10) : jt_Pu 5 [.inr (.inr (1, 0, 0)), .inl (nI f)] h (.inl (nI f)) := by
  show jt_T 5 (0, [(0, .inr (.inr (1, 0, 0))), (1, .inl (nI f))], [], h) _
  refine jt_go jm_m5 0 1 (f' := (1, [(0, .inr (.inr (1, 0, 0))), (1, .inl (nI f))], [.inl (nI f)], h)) (P := True) rfl trivial ?_
  refine jt_iret jm_m5 1 rfl ?_
  exact ⟨rfl, rfl⟩
set_option maxHeartbeats 4000000 in
set_option maxRecDepth 20000 in
theorem tp_4_1 {h : jm_M} {f : Nat} (hf : f < 10) : jt_Pu 4 [.inr (.inr (1, 1, 0)), .inl (nI f)] h (.inl (nI 3)) := by
  show jt_T 4 (0, [(0, .inr (.inr (1, 1, 0))), (1, .inl (nI f))], [], h) _
  refine jt_go jm_m4 0 1 (f' := (1, [(0, .inr (.inr (1, 1, 0))), (1, .inl (nI f))], [.inl (nI 3)], h)) (P := True) rfl trivial ?_
  refine jt_iret jm_m4 1 rfl ?_
  exact ⟨rfl, rfl⟩
set_option maxHeartbeats 4000000 in
set_option maxRecDepth 20000 in
theorem tp_38_1 {h : jm_M} {f : Nat} (hf : f < 10) : jt_Pu 38 [.inr (.inr (1, 1, 0)), .inl (nI f)] h (.inl (nI (3 + f))) := by
  show jt_T 38 (0, [(0, .inr (.inr (1, 1, 0))), (1, .inl (nI f))], [], h) _
  refine jt_go jm_m38 0 2 (f' := (2, [(0, .inr (.inr (1, 1, 0))), (1, .inl (nI f))], [.inl (nI f), .inr (.inr (1, 1, 0))], h)) (P := True) rfl trivial ?_
  refine jt_callp (w := .inl (nI 3)) jm_m38 2 (mi' := 4) (as := [.inr (.inr (1, 1, 0)), .inl (nI f)]) (rest := []) (nxt := 5) rfl rfl jm_m4 rfl rfl (tp_4_1 (by omega)) ?_
  refine jt_go jm_m38 3 2 (f' := (7, [(0, .inr (.inr (1, 1, 0))), (1, .inl (nI f))], [.inl ((nI 3) + (nI f))], h)) (P := True) rfl trivial ?_
  refine jt_ti (show ((nI 3) + (nI f)) = nI (3 + f) from nI_add _ _) ?_
  refine jt_iret jm_m38 5 rfl ?_
  exact ⟨rfl, rfl⟩
set_option maxHeartbeats 4000000 in
set_option maxRecDepth 20000 in
theorem tp_5_1 {h : jm_M} {f : Nat} (hf : f < 10) : jt_Pu 5 [.inr (.inr (1, 1, 0)), .inl (nI f)] h (.inl (nI f)) := by
  show jt_T 5 (0, [(0, .inr (.inr (1, 1, 0))), (1, .inl (nI f))], [], h) _
  refine jt_go jm_m5 0 1 (f' := (1, [(0, .inr (.inr (1, 1, 0))), (1, .inl (nI f))], [.inl (nI f)], h)) (P := True) rfl trivial ?_
  refine jt_iret jm_m5 1 rfl ?_
  exact ⟨rfl, rfl⟩
set_option maxHeartbeats 4000000 in
set_option maxRecDepth 20000 in
theorem tp_68_2 {h : jm_M} {f : Nat} (hf : f < 10) : jt_Pu 68 [.inr (.inr (1, 2, 0)), .inl (nI f)] h (.inl (nI 2)) := by
  show jt_T 68 (0, [(0, .inr (.inr (1, 2, 0))), (1, .inl (nI f))], [], h) _
  refine jt_go jm_m68 0 1 (f' := (1, [(0, .inr (.inr (1, 2, 0))), (1, .inl (nI f))], [.inl (nI 2)], h)) (P := True) rfl trivial ?_
  refine jt_iret jm_m68 1 rfl ?_
  exact ⟨rfl, rfl⟩
set_option maxHeartbeats 4000000 in
set_option maxRecDepth 20000 in
theorem tp_5_2 {h : jm_M} {f : Nat} (hf : f < 10) : jt_Pu 5 [.inr (.inr (1, 2, 0)), .inl (nI f)] h (.inl (nI f)) := by
  show jt_T 5 (0, [(0, .inr (.inr (1, 2, 0))), (1, .inl (nI f))], [], h) _
  refine jt_go jm_m5 0 1 (f' := (1, [(0, .inr (.inr (1, 2, 0))), (1, .inl (nI f))], [.inl (nI f)], h)) (P := True) rfl trivial ?_
  refine jt_iret jm_m5 1 rfl ?_
  exact ⟨rfl, rfl⟩
set_option maxHeartbeats 4000000 in
set_option maxRecDepth 20000 in
theorem tp_69_2 {h : jm_M} {f : Nat} (hf : f < 10) : jt_Pu 69 [.inr (.inr (1, 2, 0)), .inl (nI f)] h (.inl (nI (f + 100))) := by
  show jt_T 69 (0, [(0, .inr (.inr (1, 2, 0))), (1, .inl (nI f))], [], h) _
  refine jt_go jm_m69 0 2 (f' := (2, [(0, .inr (.inr (1, 2, 0))), (1, .inl (nI f))], [.inl (nI f), .inr (.inr (1, 2, 0))], h)) (P := True) rfl trivial ?_
  refine jt_callp (w := .inl (nI f)) jm_m69 2 (mi' := 5) (as := [.inr (.inr (1, 2, 0)), .inl (nI f)]) (rest := []) (nxt := 5) rfl rfl jm_m5 rfl rfl (tp_5_2 (by omega)) ?_
  refine jt_go jm_m69 3 2 (f' := (8, [(0, .inr (.inr (1, 2, 0))), (1, .inl (nI f))], [.inl ((nI f) + (nI 100))], h)) (P := True) rfl trivial ?_
  refine jt_ti (show ((nI f) + (nI 100)) = nI (f + 100) from nI_add _ _) ?_
  refine jt_iret jm_m69 5 rfl ?_
  exact ⟨rfl, rfl⟩
set_option maxHeartbeats 4000000 in
set_option maxRecDepth 20000 in
theorem tp_4_3 {h : jm_M} {f : Nat} (hf : f < 10) : jt_Pu 4 [.inr (.inr (1, 3, 0)), .inl (nI f)] h (.inl (nI 3)) := by
  show jt_T 4 (0, [(0, .inr (.inr (1, 3, 0))), (1, .inl (nI f))], [], h) _
  refine jt_go jm_m4 0 1 (f' := (1, [(0, .inr (.inr (1, 3, 0))), (1, .inl (nI f))], [.inl (nI 3)], h)) (P := True) rfl trivial ?_
  refine jt_iret jm_m4 1 rfl ?_
  exact ⟨rfl, rfl⟩
set_option maxHeartbeats 4000000 in
set_option maxRecDepth 20000 in
theorem tp_72_3 {h : jm_M} {f : Nat} (hf : f < 10) : jt_Pu 72 [.inr (.inr (1, 3, 0)), .inl (nI f)] h (.inl (nI 8)) := by
  show jt_T 72 (0, [(0, .inr (.inr (1, 3, 0))), (1, .inl (nI f))], [], h) _
  refine jt_go jm_m72 0 2 (f' := (2, [(0, .inr (.inr (1, 3, 0))), (1, .inl (nI f))], [.inl (nI f), .inr (.inr (1, 3, 0))], h)) (P := True) rfl trivial ?_
  refine jt_callp (w := .inl (nI 3)) jm_m72 2 (mi' := 4) (as := [.inr (.inr (1, 3, 0)), .inl (nI f)]) (rest := []) (nxt := 5) rfl rfl jm_m4 rfl rfl (tp_4_3 (by omega)) ?_
  refine jt_go jm_m72 3 2 (f' := (7, [(0, .inr (.inr (1, 3, 0))), (1, .inl (nI f))], [.inl ((nI 3) + (nI 5))], h)) (P := True) rfl trivial ?_
  refine jt_ti (show ((nI 3) + (nI 5)) = nI 8 from rfl) ?_
  refine jt_iret jm_m72 5 rfl ?_
  exact ⟨rfl, rfl⟩
set_option maxHeartbeats 4000000 in
set_option maxRecDepth 20000 in
theorem tp_4_4 {h : jm_M} {f : Nat} (hf : f < 10) : jt_Pu 4 [.inr (.inr (1, 4, 0)), .inl (nI f)] h (.inl (nI 3)) := by
  show jt_T 4 (0, [(0, .inr (.inr (1, 4, 0))), (1, .inl (nI f))], [], h) _
  refine jt_go jm_m4 0 1 (f' := (1, [(0, .inr (.inr (1, 4, 0))), (1, .inl (nI f))], [.inl (nI 3)], h)) (P := True) rfl trivial ?_
  refine jt_iret jm_m4 1 rfl ?_
  exact ⟨rfl, rfl⟩
set_option maxHeartbeats 4000000 in
set_option maxRecDepth 20000 in
theorem tp_38_4 {h : jm_M} {f : Nat} (hf : f < 10) : jt_Pu 38 [.inr (.inr (1, 4, 0)), .inl (nI f)] h (.inl (nI (3 + f))) := by
  show jt_T 38 (0, [(0, .inr (.inr (1, 4, 0))), (1, .inl (nI f))], [], h) _
  refine jt_go jm_m38 0 2 (f' := (2, [(0, .inr (.inr (1, 4, 0))), (1, .inl (nI f))], [.inl (nI f), .inr (.inr (1, 4, 0))], h)) (P := True) rfl trivial ?_
  refine jt_callp (w := .inl (nI 3)) jm_m38 2 (mi' := 4) (as := [.inr (.inr (1, 4, 0)), .inl (nI f)]) (rest := []) (nxt := 5) rfl rfl jm_m4 rfl rfl (tp_4_4 (by omega)) ?_
  refine jt_go jm_m38 3 2 (f' := (7, [(0, .inr (.inr (1, 4, 0))), (1, .inl (nI f))], [.inl ((nI 3) + (nI f))], h)) (P := True) rfl trivial ?_
  refine jt_ti (show ((nI 3) + (nI f)) = nI (3 + f) from nI_add _ _) ?_
  refine jt_iret jm_m38 5 rfl ?_
  exact ⟨rfl, rfl⟩
set_option maxHeartbeats 4000000 in
set_option maxRecDepth 20000 in
theorem tp_36_4 {h : jm_M} {f : Nat} (hf : f < 10) : jt_Pu 36 [.inr (.inr (1, 4, 0)), .inl (nI f)] h (.inl (nI ((3 + f) / 2))) := by
  show jt_T 36 (0, [(0, .inr (.inr (1, 4, 0))), (1, .inl (nI f))], [], h) _
  refine jt_go jm_m36 0 2 (f' := (2, [(0, .inr (.inr (1, 4, 0))), (1, .inl (nI f))], [.inl (nI f), .inr (.inr (1, 4, 0))], h)) (P := True) rfl trivial ?_
  refine jt_callp (w := .inl (nI (3 + f))) jm_m36 2 (mi' := 38) (as := [.inr (.inr (1, 4, 0)), .inl (nI f)]) (rest := []) (nxt := 5) rfl rfl jm_m38 rfl rfl (tp_38_4 (by omega)) ?_
  refine jt_go jm_m36 3 2 (f' := (7, [(0, .inr (.inr (1, 4, 0))), (1, .inl (nI f))], [.inl ((nI (3 + f)) / (nI 2))], h)) (P := ¬ (nI 2) = 0 ∧ True) rfl ⟨(by decide), trivial⟩ ?_
  refine jt_ti (show ((nI (3 + f)) / (nI 2)) = nI ((3 + f) / 2) from jx_d2 _ (by omega)) ?_
  refine jt_iret jm_m36 5 rfl ?_
  exact ⟨rfl, rfl⟩
set_option maxHeartbeats 4000000 in
set_option maxRecDepth 20000 in
theorem tp_5_4 {h : jm_M} {f : Nat} (hf : f < 10) : jt_Pu 5 [.inr (.inr (1, 4, 0)), .inl (nI f)] h (.inl (nI f)) := by
  show jt_T 5 (0, [(0, .inr (.inr (1, 4, 0))), (1, .inl (nI f))], [], h) _
  refine jt_go jm_m5 0 1 (f' := (1, [(0, .inr (.inr (1, 4, 0))), (1, .inl (nI f))], [.inl (nI f)], h)) (P := True) rfl trivial ?_
  refine jt_iret jm_m5 1 rfl ?_
  exact ⟨rfl, rfl⟩
set_option maxHeartbeats 4000000 in
set_option maxRecDepth 20000 in
theorem tp_4_5 {h : jm_M} {f : Nat} (hf : f < 10) : jt_Pu 4 [.inr (.inr (1, 5, 0)), .inl (nI f)] h (.inl (nI 3)) := by
  show jt_T 4 (0, [(0, .inr (.inr (1, 5, 0))), (1, .inl (nI f))], [], h) _
  refine jt_go jm_m4 0 1 (f' := (1, [(0, .inr (.inr (1, 5, 0))), (1, .inl (nI f))], [.inl (nI 3)], h)) (P := True) rfl trivial ?_
  refine jt_iret jm_m4 1 rfl ?_
  exact ⟨rfl, rfl⟩
set_option maxHeartbeats 4000000 in
set_option maxRecDepth 20000 in
theorem tp_72_5 {h : jm_M} {f : Nat} (hf : f < 10) : jt_Pu 72 [.inr (.inr (1, 5, 0)), .inl (nI f)] h (.inl (nI 8)) := by
  show jt_T 72 (0, [(0, .inr (.inr (1, 5, 0))), (1, .inl (nI f))], [], h) _
  refine jt_go jm_m72 0 2 (f' := (2, [(0, .inr (.inr (1, 5, 0))), (1, .inl (nI f))], [.inl (nI f), .inr (.inr (1, 5, 0))], h)) (P := True) rfl trivial ?_
  refine jt_callp (w := .inl (nI 3)) jm_m72 2 (mi' := 4) (as := [.inr (.inr (1, 5, 0)), .inl (nI f)]) (rest := []) (nxt := 5) rfl rfl jm_m4 rfl rfl (tp_4_5 (by omega)) ?_
  refine jt_go jm_m72 3 2 (f' := (7, [(0, .inr (.inr (1, 5, 0))), (1, .inl (nI f))], [.inl ((nI 3) + (nI 5))], h)) (P := True) rfl trivial ?_
  refine jt_ti (show ((nI 3) + (nI 5)) = nI 8 from rfl) ?_
  refine jt_iret jm_m72 5 rfl ?_
  exact ⟨rfl, rfl⟩
set_option maxHeartbeats 4000000 in
set_option maxRecDepth 20000 in
theorem tp_52_5 {h : jm_M} {f : Nat} (hf : f < 10) : jt_Pu 52 [.inr (.inr (1, 5, 0)), .inl (nI f)] h (.inl (nI 16)) := by
  show jt_T 52 (0, [(0, .inr (.inr (1, 5, 0))), (1, .inl (nI f))], [], h) _
  refine jt_go jm_m52 0 3 (f' := (3, [(0, .inr (.inr (1, 5, 0))), (1, .inl (nI f))], [.inl (nI f), .inr (.inr (1, 5, 0)), .inl (nI 2)], h)) (P := True) rfl trivial ?_
  refine jt_callp (w := .inl (nI 8)) jm_m52 3 (mi' := 72) (as := [.inr (.inr (1, 5, 0)), .inl (nI f)]) (rest := [.inl (nI 2)]) (nxt := 6) rfl rfl jm_m72 rfl rfl (tp_72_5 (by omega)) ?_
  refine jt_go jm_m52 4 1 (f' := (7, [(0, .inr (.inr (1, 5, 0))), (1, .inl (nI f))], [.inl ((nI 2) * (nI 8))], h)) (P := True) rfl trivial ?_
  refine jt_ti (show ((nI 2) * (nI 8)) = nI 16 from rfl) ?_
  refine jt_iret jm_m52 5 rfl ?_
  exact ⟨rfl, rfl⟩
set_option maxHeartbeats 4000000 in
set_option maxRecDepth 20000 in
theorem tp_68_6 {h : jm_M} {f : Nat} (hf : f < 10) : jt_Pu 68 [.inr (.inr (1, 6, 0)), .inl (nI f)] h (.inl (nI 2)) := by
  show jt_T 68 (0, [(0, .inr (.inr (1, 6, 0))), (1, .inl (nI f))], [], h) _
  refine jt_go jm_m68 0 1 (f' := (1, [(0, .inr (.inr (1, 6, 0))), (1, .inl (nI f))], [.inl (nI 2)], h)) (P := True) rfl trivial ?_
  refine jt_iret jm_m68 1 rfl ?_
  exact ⟨rfl, rfl⟩
set_option maxHeartbeats 4000000 in
set_option maxRecDepth 20000 in
theorem tp_54_6 {h : jm_M} {f : Nat} (hf : f < 10) : jt_Pu 54 [.inr (.inr (1, 6, 0)), .inl (nI f)] h (.inl (nI (2 + f))) := by
  show jt_T 54 (0, [(0, .inr (.inr (1, 6, 0))), (1, .inl (nI f))], [], h) _
  refine jt_go jm_m54 0 2 (f' := (2, [(0, .inr (.inr (1, 6, 0))), (1, .inl (nI f))], [.inl (nI f), .inr (.inr (1, 6, 0))], h)) (P := True) rfl trivial ?_
  refine jt_callp (w := .inl (nI 2)) jm_m54 2 (mi' := 68) (as := [.inr (.inr (1, 6, 0)), .inl (nI f)]) (rest := []) (nxt := 5) rfl rfl jm_m68 rfl rfl (tp_68_6 (by omega)) ?_
  refine jt_go jm_m54 3 2 (f' := (7, [(0, .inr (.inr (1, 6, 0))), (1, .inl (nI f))], [.inl ((nI 2) + (nI f))], h)) (P := True) rfl trivial ?_
  refine jt_ti (show ((nI 2) + (nI f)) = nI (2 + f) from nI_add _ _) ?_
  refine jt_iret jm_m54 5 rfl ?_
  exact ⟨rfl, rfl⟩
set_option maxHeartbeats 4000000 in
set_option maxRecDepth 20000 in
theorem tp_5_6 {h : jm_M} {f : Nat} (hf : f < 10) : jt_Pu 5 [.inr (.inr (1, 6, 0)), .inl (nI f)] h (.inl (nI f)) := by
  show jt_T 5 (0, [(0, .inr (.inr (1, 6, 0))), (1, .inl (nI f))], [], h) _
  refine jt_go jm_m5 0 1 (f' := (1, [(0, .inr (.inr (1, 6, 0))), (1, .inl (nI f))], [.inl (nI f)], h)) (P := True) rfl trivial ?_
  refine jt_iret jm_m5 1 rfl ?_
  exact ⟨rfl, rfl⟩
set_option maxHeartbeats 4000000 in
set_option maxRecDepth 20000 in
theorem tp_69_6 {h : jm_M} {f : Nat} (hf : f < 10) : jt_Pu 69 [.inr (.inr (1, 6, 0)), .inl (nI f)] h (.inl (nI (f + 100))) := by
  show jt_T 69 (0, [(0, .inr (.inr (1, 6, 0))), (1, .inl (nI f))], [], h) _
  refine jt_go jm_m69 0 2 (f' := (2, [(0, .inr (.inr (1, 6, 0))), (1, .inl (nI f))], [.inl (nI f), .inr (.inr (1, 6, 0))], h)) (P := True) rfl trivial ?_
  refine jt_callp (w := .inl (nI f)) jm_m69 2 (mi' := 5) (as := [.inr (.inr (1, 6, 0)), .inl (nI f)]) (rest := []) (nxt := 5) rfl rfl jm_m5 rfl rfl (tp_5_6 (by omega)) ?_
  refine jt_go jm_m69 3 2 (f' := (8, [(0, .inr (.inr (1, 6, 0))), (1, .inl (nI f))], [.inl ((nI f) + (nI 100))], h)) (P := True) rfl trivial ?_
  refine jt_ti (show ((nI f) + (nI 100)) = nI (f + 100) from nI_add _ _) ?_
  refine jt_iret jm_m69 5 rfl ?_
  exact ⟨rfl, rfl⟩
set_option maxHeartbeats 4000000 in
set_option maxRecDepth 20000 in
theorem tp_55_6 {h : jm_M} {f : Nat} (hf : f < 10) : jt_Pu 55 [.inr (.inr (1, 6, 0)), .inl (nI f)] h (.inl (nI (200 + (2 + f)))) := by
  show jt_T 55 (0, [(0, .inr (.inr (1, 6, 0))), (1, .inl (nI f))], [], h) _
  refine jt_go jm_m55 0 3 (f' := (5, [(0, .inr (.inr (1, 6, 0))), (1, .inl (nI f))], [.inl (nI f), .inr (.inr (1, 6, 0)), .inl (nI 200)], h)) (P := True) rfl trivial ?_
  refine jt_callp (w := .inl (nI (2 + f))) jm_m55 3 (mi' := 54) (as := [.inr (.inr (1, 6, 0)), .inl (nI f)]) (rest := [.inl (nI 200)]) (nxt := 8) rfl rfl jm_m54 rfl rfl (tp_54_6 (by omega)) ?_
  refine jt_go jm_m55 4 1 (f' := (9, [(0, .inr (.inr (1, 6, 0))), (1, .inl (nI f))], [.inl ((nI 200) + (nI (2 + f)))], h)) (P := True) rfl trivial ?_
  refine jt_ti (show ((nI 200) + (nI (2 + f))) = nI (200 + (2 + f)) from nI_add _ _) ?_
  refine jt_iret jm_m55 5 rfl ?_
  exact ⟨rfl, rfl⟩
set_option maxHeartbeats 4000000 in
set_option maxRecDepth 20000 in
theorem tp_40_7 {h : jm_M} {f : Nat} (hf : f < 10) : jt_Pu 40 [.inr (.inr (1, 7, 0)), .inl (nI f)] h (.inl (nI 0)) := by
  show jt_T 40 (0, [(0, .inr (.inr (1, 7, 0))), (1, .inl (nI f))], [], h) _
  refine jt_go jm_m40 0 1 (f' := (1, [(0, .inr (.inr (1, 7, 0))), (1, .inl (nI f))], [.inl (nI 0)], h)) (P := True) rfl trivial ?_
  refine jt_iret jm_m40 1 rfl ?_
  exact ⟨rfl, rfl⟩
set_option maxHeartbeats 4000000 in
set_option maxRecDepth 20000 in
theorem tp_by {h : jm_M} {k f : Nat} (hk : k < 8) (hf : f < 10) : jt_Pu 235 [.inl (nI k), .inl (nI f)] h (.inl (nI (sp_cost k f))) := by
  show jt_T 235 (0, [(0, .inl (nI k)), (1, .inl (nI f))], [], h) _
  refine jt_go jm_m235 0 1 (f' := (1, [(0, .inl (nI k)), (1, .inl (nI f))], [.inl (nI k)], h)) (P := True) rfl trivial ?_
  refine jt_ts jm_m235 1 rfl ⟨fun d0 => ?_, fun d0 => ⟨fun d1 => ?_, fun d1 => ⟨fun d2 => ?_, fun d2 => ⟨fun d3 => ?_, fun d3 => ⟨fun d4 => ?_, fun d4 => ⟨fun d5 => ?_, fun d5 => ⟨fun d6 => ?_, fun d6 => ?_⟩⟩⟩⟩⟩⟩⟩
  · have d0 : k = 1 := nI_inj (by omega) (by decide) d0
    show jt_T 235 (44, [(0, .inl (nI k)), (1, .inl (nI f))], [], h) _
    refine jt_go jm_m235 2 3 (f' := (47, [(0, .inl (nI k)), (1, .inl (nI f))], [.inl ((nI 3) + (nI f))], h)) (P := True) rfl trivial ?_
    refine jt_ti (show ((nI 3) + (nI f)) = nI (3 + f) from nI_add _ _) ?_
    refine jt_iret jm_m235 5 rfl ?_
    refine ⟨jt_ln ?_, rfl⟩
    unfold sp_cost
    first | (subst d0; rfl) | (rw [if_neg d0, if_neg d1, if_neg d2, if_neg d3, if_neg d4, if_neg d5, if_neg d6])
  · have d1 : k = 2 := nI_inj (by omega) (by decide) d1
    show jt_T 235 (48, [(0, .inl (nI k)), (1, .inl (nI f))], [], h) _
    refine jt_go jm_m235 6 1 (f' := (49, [(0, .inl (nI k)), (1, .inl (nI f))], [.inl (nI 2)], h)) (P := True) rfl trivial ?_
    refine jt_iret jm_m235 7 rfl ?_
    refine ⟨jt_ln ?_, rfl⟩
    unfold sp_cost
    first | (subst d1; rfl) | (rw [if_neg d0, if_neg d1, if_neg d2, if_neg d3, if_neg d4, if_neg d5, if_neg d6])
  · have d2 : k = 3 := nI_inj (by omega) (by decide) d2
    show jt_T 235 (50, [(0, .inl (nI k)), (1, .inl (nI f))], [], h) _
    refine jt_go jm_m235 8 1 (f' := (52, [(0, .inl (nI k)), (1, .inl (nI f))], [.inl (nI 8)], h)) (P := True) rfl trivial ?_
    refine jt_iret jm_m235 9 rfl ?_
    refine ⟨jt_ln ?_, rfl⟩
    unfold sp_cost
    first | (subst d2; rfl) | (rw [if_neg d0, if_neg d1, if_neg d2, if_neg d3, if_neg d4, if_neg d5, if_neg d6])
  · have d3 : k = 4 := nI_inj (by omega) (by decide) d3
    show jt_T 235 (53, [(0, .inl (nI k)), (1, .inl (nI f))], [], h) _
    refine jt_go jm_m235 10 3 (f' := (56, [(0, .inl (nI k)), (1, .inl (nI f))], [.inl ((nI 3) + (nI f))], h)) (P := True) rfl trivial ?_
    refine jt_ti (show ((nI 3) + (nI f)) = nI (3 + f) from nI_add _ _) ?_
    refine jt_go jm_m235 13 2 (f' := (58, [(0, .inl (nI k)), (1, .inl (nI f))], [.inl ((nI (3 + f)) / (nI 2))], h)) (P := ¬ (nI 2) = 0 ∧ True) rfl ⟨(by decide), trivial⟩ ?_
    refine jt_ti (show ((nI (3 + f)) / (nI 2)) = nI ((3 + f) / 2) from jx_d2 _ (by omega)) ?_
    refine jt_iret jm_m235 15 rfl ?_
    refine ⟨jt_ln ?_, rfl⟩
    unfold sp_cost
    first | (subst d3; rfl) | (rw [if_neg d0, if_neg d1, if_neg d2, if_neg d3, if_neg d4, if_neg d5, if_neg d6])
  · have d4 : k = 5 := nI_inj (by omega) (by decide) d4
    show jt_T 235 (59, [(0, .inl (nI k)), (1, .inl (nI f))], [], h) _
    refine jt_go jm_m235 16 1 (f' := (61, [(0, .inl (nI k)), (1, .inl (nI f))], [.inl (nI 16)], h)) (P := True) rfl trivial ?_
    refine jt_iret jm_m235 17 rfl ?_
    refine ⟨jt_ln ?_, rfl⟩
    unfold sp_cost
    first | (subst d4; rfl) | (rw [if_neg d0, if_neg d1, if_neg d2, if_neg d3, if_neg d4, if_neg d5, if_neg d6])
  · have d5 : k = 6 := nI_inj (by omega) (by decide) d5
    show jt_T 235 (62, [(0, .inl (nI k)), (1, .inl (nI f))], [], h) _
    refine jt_go jm_m235 18 3 (f' := (65, [(0, .inl (nI k)), (1, .inl (nI f))], [.inl ((nI 2) + (nI f))], h)) (P := True) rfl trivial ?_
    refine jt_ti (show ((nI 2) + (nI f)) = nI (2 + f) from nI_add _ _) ?_
    refine jt_iret jm_m235 21 rfl ?_
    refine ⟨jt_ln ?_, rfl⟩
    unfold sp_cost
    first | (subst d5; rfl) | (rw [if_neg d0, if_neg d1, if_neg d2, if_neg d3, if_neg d4, if_neg d5, if_neg d6])
  · have d6 : k = 7 := nI_inj (by omega) (by decide) d6
    show jt_T 235 (66, [(0, .inl (nI k)), (1, .inl (nI f))], [], h) _
    refine jt_go jm_m235 22 1 (f' := (67, [(0, .inl (nI k)), (1, .inl (nI f))], [.inl (nI 0)], h)) (P := True) rfl trivial ?_
    refine jt_iret jm_m235 23 rfl ?_
    refine ⟨jt_ln ?_, rfl⟩
    unfold sp_cost
    first | (subst d6; rfl) | (rw [if_neg d0, if_neg d1, if_neg d2, if_neg d3, if_neg d4, if_neg d5, if_neg d6])
  · have d0 : ¬ k = 1 := fun z => d0 (by rw [z]; rfl)
    have d1 : ¬ k = 2 := fun z => d1 (by rw [z]; rfl)
    have d2 : ¬ k = 3 := fun z => d2 (by rw [z]; rfl)
    have d3 : ¬ k = 4 := fun z => d3 (by rw [z]; rfl)
    have d4 : ¬ k = 5 := fun z => d4 (by rw [z]; rfl)
    have d5 : ¬ k = 6 := fun z => d5 (by rw [z]; rfl)
    have d6 : ¬ k = 7 := fun z => d6 (by rw [z]; rfl)
    show jt_T 235 (68, [(0, .inl (nI k)), (1, .inl (nI f))], [], h) _
    refine jt_go jm_m235 24 1 (f' := (69, [(0, .inl (nI k)), (1, .inl (nI f))], [.inl (nI 3)], h)) (P := True) rfl trivial ?_
    refine jt_iret jm_m235 25 rfl ?_
    refine ⟨jt_ln ?_, rfl⟩
    unfold sp_cost
    first | (subst d0; rfl) | (rw [if_neg d0, if_neg d1, if_neg d2, if_neg d3, if_neg d4, if_neg d5, if_neg d6])
set_option maxHeartbeats 4000000 in
set_option maxRecDepth 20000 in
theorem ck_cost {h : jm_M} {s : Nat → Nat → Nat} {e : Nat → Nat → Int32} (K : jk_rel h s e) (Y : kw s) {x : Int32} : jt_Pu 131 [.inr (.inr (0, 0, 0)), .inl (x)] h (.inl (za_cost s x)) := by
  show jt_T 131 (0, [(0, .inr (.inr (0, 0, 0))), (1, .inl (x))], [], h) _
  refine jt_go jm_m131 0 2 (f' := (2, [(0, .inr (.inr (0, 0, 0))), (1, .inl (x))], [.inl (x), .inr (.inr (0, 0, 0))], h)) (P := True) rfl trivial ?_
  refine jt_callp (w := .inl (zr_h 1 s x)) jm_m131 2 (mi' := 134) (as := [.inr (.inr (0, 0, 0)), .inl (x)]) (rest := []) (nxt := 5) rfl rfl jm_m134 rfl rfl (tk_kind K Y) ?_
  rcases zr_cs (x := x) Y (Or.inl rfl) with ⟨qn, q0⟩ | ⟨d, hd, rfl, qa, q0⟩ | ⟨d, hd, rfl, qa, q0⟩ | ⟨d, hd, rfl, qa, q0⟩
  · refine jt_ti (show zr_h 1 s x = (-1) from q0) ?_
    show jt_T 131 (5, [(0, .inr (.inr (0, 0, 0))), (1, .inl (x))], [.inl ((-1))], h) _
    refine jt_go jm_m131 3 2 (f' := (7, [(2, .inl ((-1))), (0, .inr (.inr (0, 0, 0))), (1, .inl (x))], [.inl ((-1))], h)) (P := True) rfl trivial ?_
    refine jt_ifeq jm_m131 5 (tgt := 12) (nxt := 10) rfl rfl rfl (fun c7 => ?_) (fun c7 => ?_)
    · exact absurd c7 (by decide)
    · refine jt_go jm_m131 6 1 (f' := (11, [(2, .inl ((-1))), (0, .inr (.inr (0, 0, 0))), (1, .inl (x))], [.inl ((-1))], h)) (P := True) rfl trivial ?_
      refine jt_iret jm_m131 7 rfl ?_
      refine ⟨jt_li ?_, rfl⟩
      unfold za_cost
      rw [q0]
      rfl
  · refine jt_ti (show zr_h 1 s (nI d) = (-11) from q0) ?_
    show jt_T 131 (5, [(0, .inr (.inr (0, 0, 0))), (1, .inl (nI d))], [.inl ((-11))], h) _
    refine jt_go jm_m131 3 2 (f' := (7, [(2, .inl ((-11))), (0, .inr (.inr (0, 0, 0))), (1, .inl (nI d))], [.inl ((-11))], h)) (P := True) rfl trivial ?_
    refine jt_ifeq jm_m131 5 (tgt := 12) (nxt := 10) rfl rfl rfl (fun c7 => ?_) (fun c7 => ?_)
    · exact absurd c7 (by decide)
    · refine jt_go jm_m131 6 1 (f' := (11, [(2, .inl ((-11))), (0, .inr (.inr (0, 0, 0))), (1, .inl (nI d))], [.inl ((-11))], h)) (P := True) rfl trivial ?_
      refine jt_iret jm_m131 7 rfl ?_
      refine ⟨jt_li ?_, rfl⟩
      unfold za_cost
      rw [q0]
      rfl
  · refine jt_ti (show zr_h 1 s (nI d) = (-12) from q0) ?_
    show jt_T 131 (5, [(0, .inr (.inr (0, 0, 0))), (1, .inl (nI d))], [.inl ((-12))], h) _
    refine jt_go jm_m131 3 2 (f' := (7, [(2, .inl ((-12))), (0, .inr (.inr (0, 0, 0))), (1, .inl (nI d))], [.inl ((-12))], h)) (P := True) rfl trivial ?_
    refine jt_ifeq jm_m131 5 (tgt := 12) (nxt := 10) rfl rfl rfl (fun c7 => ?_) (fun c7 => ?_)
    · exact absurd c7 (by decide)
    · refine jt_go jm_m131 6 1 (f' := (11, [(2, .inl ((-12))), (0, .inr (.inr (0, 0, 0))), (1, .inl (nI d))], [.inl ((-12))], h)) (P := True) rfl trivial ?_
      refine jt_iret jm_m131 7 rfl ?_
      refine ⟨jt_li ?_, rfl⟩
      unfold za_cost
      rw [q0]
      rfl
  · refine jt_ti (show zr_h 1 s (nI d) = nI 0 from q0) ?_
    show jt_T 131 (5, [(0, .inr (.inr (0, 0, 0))), (1, .inl (nI d))], [.inl (nI 0)], h) _
    refine jt_go jm_m131 3 2 (f' := (7, [(2, .inl (nI 0)), (0, .inr (.inr (0, 0, 0))), (1, .inl (nI d))], [.inl (nI 0)], h)) (P := True) rfl trivial ?_
    refine jt_nifeq jm_m131 5 (by omega) (tgt := 12) (nxt := 10) rfl rfl rfl (fun c7 => ?_) (fun c7 => ?_)
    · refine jt_go jm_m131 8 6 (f' := (22, [(2, .inl (nI 0)), (0, .inr (.inr (0, 0, 0))), (1, .inl (nI d))], [.inr (.inr (3, (nI d).toNatClampNeg, 0)), .inr (.inr (0, 0, 1))], h)) (P := vp_in (nI d) 8 ∧ True) rfl ⟨(vp_in_nI (by omega) (by decide)), trivial⟩ ?_
      refine jt_tr (show ((3, (nI d).toNatClampNeg, 0) : jm_K) = (3, d, 0) by rw [nI_clamp (by omega)]) ?_
      refine jt_go jm_m131 14 1 (f' := (25, [(2, .inl (nI 0)), (0, .inr (.inr (0, 0, 0))), (1, .inl (nI d))], [.inl (h (3, d, 0) 1), .inr (.inr (0, 0, 1))], h)) (P := True) rfl trivial ?_
      refine jt_ti (show (h (3, d, 0) 1) = nI (s d 1) from jk_kind K (d := d) (by omega) (by assumption)) ?_
      have bq1 := kw_k Y (d := d) (by omega) (by assumption)
      refine jt_go jm_m131 15 1 (f' := (26, [(2, .inl (nI 0)), (0, .inr (.inr (0, 0, 0))), (1, .inl (nI d))], [.inr (.inr (1, (nI (s d 1)).toNatClampNeg, 0))], h)) (P := vp_in (nI (s d 1)) 8 ∧ True) rfl ⟨(vp_in_nI (by omega) (by decide)), trivial⟩ ?_
      obtain ⟨k1, ek1⟩ : ∃ k : Nat, k = s d 1 := ⟨_, rfl⟩
      refine jt_tr (show ((1, (nI (s d 1)).toNatClampNeg, 0) : jm_K) = (1, k1, 0) by rw [ek1, nI_clamp (by omega)]) ?_
      refine jt_go jm_m131 16 4 (f' := (32, [(2, .inl (nI 0)), (0, .inr (.inr (0, 0, 0))), (1, .inl (nI d))], [.inr (.inr (3, (nI d).toNatClampNeg, 0)), .inr (.inr (1, k1, 0))], h)) (P := vp_in (nI d) 8 ∧ True) rfl ⟨(vp_in_nI (by omega) (by decide)), trivial⟩ ?_
      refine jt_tr (show ((3, (nI d).toNatClampNeg, 0) : jm_K) = (3, d, 0) by rw [nI_clamp (by omega)]) ?_
      refine jt_go jm_m131 20 1 (f' := (35, [(2, .inl (nI 0)), (0, .inr (.inr (0, 0, 0))), (1, .inl (nI d))], [.inl (h (3, d, 0) 2), .inr (.inr (1, k1, 0))], h)) (P := True) rfl trivial ?_
      refine jt_ti (show (h (3, d, 0) 2) = nI (s d 2) from jk_fig K (d := d) (by omega) (by assumption)) ?_
      have bq2 := kw_f Y (d := d) (by omega) (by assumption)
      rcases jt_k8 (n := k1) (by omega) with rfl | rfl | rfl | rfl | rfl | rfl | rfl | rfl
      · refine jt_callp (w := .inl (nI 3)) jm_m131 21 (mi' := 4) (as := [.inr (.inr (1, 0, 0)), .inl (nI (s d 2))]) (rest := []) (nxt := 38) rfl rfl jm_m4 rfl rfl (tp_4_0 (by omega)) ?_
        refine jt_iret jm_m131 22 rfl ?_
        refine ⟨jt_li ?_, rfl⟩
        unfold za_cost
        rw [q0, if_pos rfl, nI_clamp (by omega)]
        unfold sp_cost
        first | done | (rw [← ek1]; rfl)
      · refine jt_callp (w := .inl (nI (3 + (s d 2)))) jm_m131 21 (mi' := 38) (as := [.inr (.inr (1, 1, 0)), .inl (nI (s d 2))]) (rest := []) (nxt := 38) rfl rfl jm_m38 rfl rfl (tp_38_1 (by omega)) ?_
        refine jt_iret jm_m131 22 rfl ?_
        refine ⟨jt_li ?_, rfl⟩
        unfold za_cost
        rw [q0, if_pos rfl, nI_clamp (by omega)]
        unfold sp_cost
        first | done | (rw [← ek1]; rfl)
      · refine jt_callp (w := .inl (nI 2)) jm_m131 21 (mi' := 68) (as := [.inr (.inr (1, 2, 0)), .inl (nI (s d 2))]) (rest := []) (nxt := 38) rfl rfl jm_m68 rfl rfl (tp_68_2 (by omega)) ?_
        refine jt_iret jm_m131 22 rfl ?_
        refine ⟨jt_li ?_, rfl⟩
        unfold za_cost
        rw [q0, if_pos rfl, nI_clamp (by omega)]
        unfold sp_cost
        first | done | (rw [← ek1]; rfl)
      · refine jt_callp (w := .inl (nI 8)) jm_m131 21 (mi' := 72) (as := [.inr (.inr (1, 3, 0)), .inl (nI (s d 2))]) (rest := []) (nxt := 38) rfl rfl jm_m72 rfl rfl (tp_72_3 (by omega)) ?_
        refine jt_iret jm_m131 22 rfl ?_
        refine ⟨jt_li ?_, rfl⟩
        unfold za_cost
        rw [q0, if_pos rfl, nI_clamp (by omega)]
        unfold sp_cost
        first | done | (rw [← ek1]; rfl)
      · refine jt_callp (w := .inl (nI ((3 + (s d 2)) / 2))) jm_m131 21 (mi' := 36) (as := [.inr (.inr (1, 4, 0)), .inl (nI (s d 2))]) (rest := []) (nxt := 38) rfl rfl jm_m36 rfl rfl (tp_36_4 (by omega)) ?_
        refine jt_iret jm_m131 22 rfl ?_
        refine ⟨jt_li ?_, rfl⟩
        unfold za_cost
        rw [q0, if_pos rfl, nI_clamp (by omega)]
        unfold sp_cost
        first | done | (rw [← ek1]; rfl)
      · refine jt_callp (w := .inl (nI 16)) jm_m131 21 (mi' := 52) (as := [.inr (.inr (1, 5, 0)), .inl (nI (s d 2))]) (rest := []) (nxt := 38) rfl rfl jm_m52 rfl rfl (tp_52_5 (by omega)) ?_
        refine jt_iret jm_m131 22 rfl ?_
        refine ⟨jt_li ?_, rfl⟩
        unfold za_cost
        rw [q0, if_pos rfl, nI_clamp (by omega)]
        unfold sp_cost
        first | done | (rw [← ek1]; rfl)
      · refine jt_callp (w := .inl (nI (2 + (s d 2)))) jm_m131 21 (mi' := 54) (as := [.inr (.inr (1, 6, 0)), .inl (nI (s d 2))]) (rest := []) (nxt := 38) rfl rfl jm_m54 rfl rfl (tp_54_6 (by omega)) ?_
        refine jt_iret jm_m131 22 rfl ?_
        refine ⟨jt_li ?_, rfl⟩
        unfold za_cost
        rw [q0, if_pos rfl, nI_clamp (by omega)]
        unfold sp_cost
        first | done | (rw [← ek1]; rfl)
      · refine jt_callp (w := .inl (nI 0)) jm_m131 21 (mi' := 40) (as := [.inr (.inr (1, 7, 0)), .inl (nI (s d 2))]) (rest := []) (nxt := 38) rfl rfl jm_m40 rfl rfl (tp_40_7 (by omega)) ?_
        refine jt_iret jm_m131 22 rfl ?_
        refine ⟨jt_li ?_, rfl⟩
        unfold za_cost
        rw [q0, if_pos rfl, nI_clamp (by omega)]
        unfold sp_cost
        first | done | (rw [← ek1]; rfl)
    · exact absurd c7 (by decide)
set_option maxHeartbeats 4000000 in
set_option maxRecDepth 20000 in
theorem cl_cost {h : jm_M} {s : Nat → Nat → Nat} {e : Nat → Nat → Int32} (K : jl_rel h s e) (Y : kw s) {x : Int32} : jt_Pu 236 [.inr (.inr (4, 0, 0)), .inl (x)] h (.inl (za_cost s x)) := by
  show jt_T 236 (0, [(0, .inr (.inr (4, 0, 0))), (1, .inl (x))], [], h) _
  refine jt_go jm_m236 0 2 (f' := (2, [(0, .inr (.inr (4, 0, 0))), (1, .inl (x))], [.inl (x), .inr (.inr (4, 0, 0))], h)) (P := True) rfl trivial ?_
  refine jt_callp (w := .inl (zr_h 1 s x)) jm_m236 2 (mi' := 229) (as := [.inr (.inr (4, 0, 0)), .inl (x)]) (rest := []) (nxt := 5) rfl rfl jm_m229 rfl rfl (tl_kind K Y) ?_
  rcases zr_cs (x := x) Y (Or.inl rfl) with ⟨qn, q0⟩ | ⟨d, hd, rfl, qa, q0⟩ | ⟨d, hd, rfl, qa, q0⟩ | ⟨d, hd, rfl, qa, q0⟩
  · refine jt_ti (show zr_h 1 s x = (-1) from q0) ?_
    show jt_T 236 (5, [(0, .inr (.inr (4, 0, 0))), (1, .inl (x))], [.inl ((-1))], h) _
    refine jt_go jm_m236 3 2 (f' := (7, [(2, .inl ((-1))), (0, .inr (.inr (4, 0, 0))), (1, .inl (x))], [.inl ((-1))], h)) (P := True) rfl trivial ?_
    refine jt_ifeq jm_m236 5 (tgt := 14) (nxt := 10) rfl rfl rfl (fun c7 => ?_) (fun c7 => ?_)
    · exact absurd c7 (by decide)
    · refine jt_go jm_m236 6 2 (f' := (29, [(2, .inl ((-1))), (0, .inr (.inr (4, 0, 0))), (1, .inl (x))], [.inl ((-1))], h)) (P := True) rfl trivial ?_
      refine jt_iret jm_m236 17 rfl ?_
      refine ⟨jt_li ?_, rfl⟩
      unfold za_cost
      rw [q0]
      rfl
  · refine jt_ti (show zr_h 1 s (nI d) = (-11) from q0) ?_
    show jt_T 236 (5, [(0, .inr (.inr (4, 0, 0))), (1, .inl (nI d))], [.inl ((-11))], h) _
    refine jt_go jm_m236 3 2 (f' := (7, [(2, .inl ((-11))), (0, .inr (.inr (4, 0, 0))), (1, .inl (nI d))], [.inl ((-11))], h)) (P := True) rfl trivial ?_
    refine jt_ifeq jm_m236 5 (tgt := 14) (nxt := 10) rfl rfl rfl (fun c7 => ?_) (fun c7 => ?_)
    · exact absurd c7 (by decide)
    · refine jt_go jm_m236 6 2 (f' := (29, [(2, .inl ((-11))), (0, .inr (.inr (4, 0, 0))), (1, .inl (nI d))], [.inl ((-11))], h)) (P := True) rfl trivial ?_
      refine jt_iret jm_m236 17 rfl ?_
      refine ⟨jt_li ?_, rfl⟩
      unfold za_cost
      rw [q0]
      rfl
  · refine jt_ti (show zr_h 1 s (nI d) = (-12) from q0) ?_
    show jt_T 236 (5, [(0, .inr (.inr (4, 0, 0))), (1, .inl (nI d))], [.inl ((-12))], h) _
    refine jt_go jm_m236 3 2 (f' := (7, [(2, .inl ((-12))), (0, .inr (.inr (4, 0, 0))), (1, .inl (nI d))], [.inl ((-12))], h)) (P := True) rfl trivial ?_
    refine jt_ifeq jm_m236 5 (tgt := 14) (nxt := 10) rfl rfl rfl (fun c7 => ?_) (fun c7 => ?_)
    · exact absurd c7 (by decide)
    · refine jt_go jm_m236 6 2 (f' := (29, [(2, .inl ((-12))), (0, .inr (.inr (4, 0, 0))), (1, .inl (nI d))], [.inl ((-12))], h)) (P := True) rfl trivial ?_
      refine jt_iret jm_m236 17 rfl ?_
      refine ⟨jt_li ?_, rfl⟩
      unfold za_cost
      rw [q0]
      rfl
  · refine jt_ti (show zr_h 1 s (nI d) = nI 0 from q0) ?_
    show jt_T 236 (5, [(0, .inr (.inr (4, 0, 0))), (1, .inl (nI d))], [.inl (nI 0)], h) _
    refine jt_go jm_m236 3 2 (f' := (7, [(2, .inl (nI 0)), (0, .inr (.inr (4, 0, 0))), (1, .inl (nI d))], [.inl (nI 0)], h)) (P := True) rfl trivial ?_
    refine jt_nifeq jm_m236 5 (by omega) (tgt := 14) (nxt := 10) rfl rfl rfl (fun c7 => ?_) (fun c7 => ?_)
    · refine jt_go jm_m236 8 4 (f' := (20, [(2, .inl (nI 0)), (0, .inr (.inr (4, 0, 0))), (1, .inl (nI d))], [.inl (h (4, 0, 4) (nI d).toNatClampNeg)], h)) (P := vp_in (nI d) 8 ∧ True) rfl ⟨(vp_in_nI (by omega) (by decide)), trivial⟩ ?_
      refine jt_ti (show (h (4, 0, 4) (nI d).toNatClampNeg) = nI (s d 1) from jl_kind K (d := d) (nI_clamp (by omega)) (by omega) (by assumption)) ?_
      have bq1 := kw_k Y (d := d) (by omega) (by assumption)
      refine jt_go jm_m236 12 4 (f' := (26, [(2, .inl (nI 0)), (0, .inr (.inr (4, 0, 0))), (1, .inl (nI d))], [.inl (h (4, 0, 5) (nI d).toNatClampNeg), .inl (nI (s d 1))], h)) (P := vp_in (nI d) 8 ∧ True) rfl ⟨(vp_in_nI (by omega) (by decide)), trivial⟩ ?_
      refine jt_ti (show (h (4, 0, 5) (nI d).toNatClampNeg) = nI (s d 2) from jl_fig K (d := d) (nI_clamp (by omega)) (by omega) (by assumption)) ?_
      have bq2 := kw_f Y (d := d) (by omega) (by assumption)
      refine jt_callp (w := .inl (nI (sp_cost (s d 1) (s d 2)))) jm_m236 16 (mi' := 235) (as := [.inl (nI (s d 1)), .inl (nI (s d 2))]) (rest := []) (nxt := 29) rfl rfl jm_m235 rfl rfl (tp_by (by omega) (by omega)) ?_
      refine jt_iret jm_m236 17 rfl ?_
      refine ⟨jt_li ?_, rfl⟩
      unfold za_cost
      rw [q0, if_pos rfl, nI_clamp (by omega)]
    · exact absurd c7 (by decide)
