/-! TEXT: numbers. -/
theorem tg_of {s : Nat → Nat → Nat} {e : Nat → Nat → Int32} (B : ke s e) (Y : kw s) {d : Nat} (hd : d ≤ 7) (qa : s d 0 = 2) (q3 : s d 3 = 0) {i : Nat} (h : 0 < cc s e d i) : tg s e d i = nI (cc s e d i) ∧ cc s e d i < 128 := by
  rcases tg_cs B Y hd qa q3 i with ⟨c, hc, q, r⟩ | ⟨_, r⟩
  · rw [q, r]; exact ⟨rfl, hc⟩
  · omega
/-- the number of the k digits from p on -/
def sp_num (s : Nat → Nat → Nat) (e : Nat → Nat → Int32) (d p : Nat) : Nat → Nat
  | 0 => 0
  | k + 1 => 10 * sp_num s e d p k + cc s e d (p + k) - 48
theorem sp_num_lt {s : Nat → Nat → Nat} {e : Nat → Nat → Int32} {d p : Nat} : ∀ k, (∀ i, i < k → 48 ≤ cc s e d (p + i) ∧ cc s e d (p + i) ≤ 57) → sp_num s e d p k < 10 ^ k
  | 0, _ => by show 0 < 1; decide
  | k + 1, h => by
    have h1 := sp_num_lt k (fun i hi => h i (by omega))
    have h2 := h k (by omega)
    show 10 * sp_num s e d p k + cc s e d (p + k) - 48 < _
    rw [Nat.pow_succ]
    omega
set_option maxHeartbeats 4000000 in
set_option maxRecDepth 20000 in
theorem tk_num_l {h : jm_M} {s : Nat → Nat → Nat} {e : Nat → Nat → Int32} (K : jk_rel h s e) (Y : kw s) (B : ke s e) {d : Nat} (hd : d ≤ 7) (qa : s d 0 = 2) (q3 : s d 3 = 0) {p k : Nat} (hk2 : k ≤ 2) (hp : p < 1000) (dig : ∀ i, i < k → 48 ≤ cc s e d (p + i) ∧ cc s e d (p + i) ≤ 57) : ∀ i, i ≤ k → jt_T 65 (5, [(4, .inl (nI (p + i))), (3, .inl (nI (sp_num s e d p i))), (0, .inr (.inr (3, d, 0))), (1, .inl (nI p)), (2, .inl (nI k))], [], h) (fun u h' => u = some (.inl (nI (sp_num s e d p k))) ∧ h' = h) := jx_up (fun i hk nx => by
  refine jt_go jm_m65 4 4 (f' := (10, [(4, .inl (nI (p + i))), (3, .inl (nI (sp_num s e d p i))), (0, .inr (.inr (3, d, 0))), (1, .inl (nI p)), (2, .inl (nI k))], [.inl ((nI p) + (nI k)), .inl (nI (p + i))], h)) (P := True) rfl trivial ?_
  refine jt_ti (show ((nI p) + (nI k)) = nI (p + k) from nI_add _ _) ?_
  refine jt_nicge jm_m65 8 (a := p + i) (b := p + k) (by omega) (by omega) (tgt := 34) (nxt := 13) rfl rfl rfl (fun c10 => ?_) (fun c10 => ?_)
  · refine jt_go jm_m65 21 1 (f' := (35, [(4, .inl (nI (p + i))), (3, .inl (nI (sp_num s e d p i))), (0, .inr (.inr (3, d, 0))), (1, .inl (nI p)), (2, .inl (nI k))], [.inl (nI (sp_num s e d p i))], h)) (P := True) rfl trivial ?_
    refine jt_iret jm_m65 22 rfl ?_
    have e_ : i = k := by omega
    subst e_
    exact ⟨rfl, rfl⟩
  · have hik : i < k := by omega
    have dd := dig i hik
    have eg := tg_of B Y hd qa q3 (i := p + i) (by omega)
    have bn := sp_num_lt (s := s) (e := e) (d := d) (p := p) i (fun j hj => dig j (by omega))
    have b10 : 10 ^ i ≤ 10 ^ 2 := Nat.pow_le_pow_right (by decide) (by omega)
    refine jt_go jm_m65 9 3 (f' := (17, [(4, .inl (nI (p + i))), (3, .inl (nI (sp_num s e d p i))), (0, .inr (.inr (3, d, 0))), (1, .inl (nI p)), (2, .inl (nI k))], [.inl ((nI 10) * (nI (sp_num s e d p i)))], h)) (P := True) rfl trivial ?_
    refine jt_ti (show ((nI 10) * (nI (sp_num s e d p i))) = nI (10 * (sp_num s e d p i)) from nI_mul _ _) ?_
    refine jt_go jm_m65 12 2 (f' := (20, [(4, .inl (nI (p + i))), (3, .inl (nI (sp_num s e d p i))), (0, .inr (.inr (3, d, 0))), (1, .inl (nI p)), (2, .inl (nI k))], [.inl (nI (p + i)), .inr (.inr (3, d, 0)), .inl (nI (10 * (sp_num s e d p i)))], h)) (P := True) rfl trivial ?_
    refine jt_callp (w := .inl (nI (cc s e d (p + i)))) jm_m65 14 (mi' := 46) (as := [.inr (.inr (3, d, 0)), .inl (nI (p + i))]) (rest := [.inl (nI (10 * (sp_num s e d p i)))]) (nxt := 23) rfl rfl jm_m46 rfl rfl (by rw [← eg.1]; exact tk_getx K Y (by omega) (by assumption) (by omega)) ?_
    refine jt_go jm_m65 15 1 (f' := (24, [(4, .inl (nI (p + i))), (3, .inl (nI (sp_num s e d p i))), (0, .inr (.inr (3, d, 0))), (1, .inl (nI p)), (2, .inl (nI k))], [.inl ((nI (10 * (sp_num s e d p i))) + (nI (cc s e d (p + i))))], h)) (P := True) rfl trivial ?_
    refine jt_ti (show ((nI (10 * (sp_num s e d p i))) + (nI (cc s e d (p + i)))) = nI (10 * (sp_num s e d p i) + (cc s e d (p + i))) from nI_add _ _) ?_
    refine jt_go jm_m65 16 2 (f' := (27, [(4, .inl (nI (p + i))), (3, .inl (nI (sp_num s e d p i))), (0, .inr (.inr (3, d, 0))), (1, .inl (nI p)), (2, .inl (nI k))], [.inl ((nI (10 * (sp_num s e d p i) + (cc s e d (p + i)))) - (nI 48))], h)) (P := True) rfl trivial ?_
    refine jt_ti (show ((nI (10 * (sp_num s e d p i) + (cc s e d (p + i)))) - (nI 48)) = nI (10 * sp_num s e d p i + cc s e d (p + i) - 48) from nI_subN (by omega)) ?_
    refine jt_go jm_m65 18 1 (f' := (28, [(3, .inl (nI (10 * sp_num s e d p i + cc s e d (p + i) - 48))), (4, .inl (nI (p + i))), (0, .inr (.inr (3, d, 0))), (1, .inl (nI p)), (2, .inl (nI k))], [], h)) (P := True) rfl trivial ?_
    refine jt_inc jm_m65 19 (c := p + i) (L' := [(4, .inl (nI (p + i + 1))), (3, .inl (nI (10 * sp_num s e d p i + cc s e d (p + i) - 48))), (0, .inr (.inr (3, d, 0))), (1, .inl (nI p)), (2, .inl (nI k))]) rfl rfl rfl rfl ?_
    refine jt_go jm_m65 20 1 (f' := (5, [(4, .inl (nI (p + i + 1))), (3, .inl (nI (10 * sp_num s e d p i + cc s e d (p + i) - 48))), (0, .inr (.inr (3, d, 0))), (1, .inl (nI p)), (2, .inl (nI k))], [], h)) (P := True) rfl trivial ?_
    refine jt_pick (L' := [(4, .inl (nI (p + i + 1))), (3, .inl (nI (10 * sp_num s e d p i + cc s e d (p + i) - 48))), (0, .inr (.inr (3, d, 0))), (1, .inl (nI p)), (2, .inl (nI k))]) [0, 1, 2, 3, 4] rfl ?_
    exact nx (by omega))
set_option maxHeartbeats 4000000 in
set_option maxRecDepth 20000 in
theorem tk_num {h : jm_M} {s : Nat → Nat → Nat} {e : Nat → Nat → Int32} (K : jk_rel h s e) (Y : kw s) (B : ke s e) {d : Nat} (hd : d ≤ 7) (qa : s d 0 = 2) (q3 : s d 3 = 0) {p k : Nat} (hk2 : k ≤ 2) (hp : p < 1000) (dig : ∀ i, i < k → 48 ≤ cc s e d (p + i) ∧ cc s e d (p + i) ≤ 57) : jt_Pu 65 [.inr (.inr (3, d, 0)), .inl (nI p), .inl (nI k)] h (.inl (nI (sp_num s e d p k))) := by
  show jt_T 65 (0, [(0, .inr (.inr (3, d, 0))), (1, .inl (nI p)), (2, .inl (nI k))], [], h) _
  refine jt_go jm_m65 0 4 (f' := (5, [(4, .inl (nI p)), (3, .inl (nI 0)), (0, .inr (.inr (3, d, 0))), (1, .inl (nI p)), (2, .inl (nI k))], [], h)) (P := True) rfl trivial ?_
  refine jt_pick (L' := [(4, .inl (nI p)), (3, .inl (nI 0)), (0, .inr (.inr (3, d, 0))), (1, .inl (nI p)), (2, .inl (nI k))]) [0, 1, 2, 3, 4] rfl ?_
  exact tk_num_l K Y B hd qa q3 hk2 hp dig 0 (Nat.zero_le _)
