/-! TEXT: the class does a statement; all statements; the call. -/
set_option maxHeartbeats 4000000 in
set_option maxRecDepth 20000 in
theorem tk_do {h : jm_M} {s : Nat → Nat → Nat} {e : Nat → Nat → Int32} (K : jk_rel h s e) (Y : kw s) (B : ke s e) {d : Nat} (hd : d ≤ 7) (qa : s d 0 = 2) (q3 : s d 3 = 0) {j : Nat} {g : Nat → Nat} (R : jf_rel h j g) (W : jw g) {p : Nat} (hp : p ≤ 100) (S : st_bad s e d p = none)  : jt_T 59 (0, [(0, .inr (.inr (3, d, 0))), (1, .inl (nI p)), (2, .inr (.inr (2, j, 0)))], [], h) (fun u h' => u = some (.inl (jm_b (td_ok s e d p g = true))) ∧ (td_ok s e d p g = true → jf_rel h' j (td_g s e d p g)) ∧ jf_fr j h h') := by
  obtain ⟨n0, A, n59⟩ := txs_of S
  have hl := dg_pos n0
  have eg := tg_of B Y hd qa q3 (i := p) (by omega)
  have eg2 := eg.2
  refine jt_go jm_m59 0 2 (f' := (2, [(0, .inr (.inr (3, d, 0))), (1, .inl (nI p)), (2, .inr (.inr (2, j, 0)))], [.inl (nI p), .inr (.inr (3, d, 0))], h)) (P := True) rfl trivial ?_
  refine jt_callp (w := .inl (nI (cc s e d p))) jm_m59 2 (mi' := 46) (as := [.inr (.inr (3, d, 0)), .inl (nI p)]) (rest := []) (nxt := 5) rfl rfl jm_m46 rfl rfl (by rw [← eg.1]; exact tk_getx K Y (by omega) (by assumption) (by omega)) ?_
  refine jt_ls jm_m59 3 rfl ⟨fun d0 => ?_, fun d0 => ⟨fun d1 => ?_, fun d1 => ⟨fun d2 => ?_, fun d2 => ⟨fun d3 => ?_, fun d3 => ⟨fun d4 => ?_, fun d4 => ?_⟩⟩⟩⟩⟩
  · have d0 : cc s e d p = 99 := nI_inj (by omega) (by decide) d0
    show jt_T 59 (56, [(0, .inr (.inr (3, d, 0))), (1, .inl (nI p)), (2, .inr (.inr (2, j, 0)))], [], h) _
    refine jt_go jm_m59 4 3 (f' := (59, [(0, .inr (.inr (3, d, 0))), (1, .inl (nI p)), (2, .inr (.inr (2, j, 0)))], [.inr (.inr (2, j, 0)), .inl (nI p), .inr (.inr (3, d, 0))], h)) (P := True) rfl trivial ?_
    have eL := dg_le (cc s e d p)
    refine jt_call jm_m59 7 (mi' := 60) (as := [.inr (.inr (3, d, 0)), .inl (nI p), .inr (.inr (2, j, 0))]) (rest := []) (nxt := 62) rfl rfl jm_m60 rfl rfl (tk_cata K Y B hd qa q3 R W hp (fun i a b => A i a (by rw [d0]; exact b))) ?_
    rintro u h1 ⟨rfl, R1, F1⟩
    show jt_T 59 (62, [(0, .inr (.inr (3, d, 0))), (1, .inl (nI p)), (2, .inr (.inr (2, j, 0)))], [.inl (jm_b (sp_num s e d (p + 1) 1 < 8 ∧ sp_num s e d (p + 3) 2 < 16 ∧ g 0 < 6))], h1) _
    refine jt_zret jm_m59 8 rfl (jm_b_01 _) ?_
    refine ⟨jt_li (jm_b_congr (td_99 d0).1.symm), fun z => ?_, F1⟩
    rw [(td_99 d0).2]
    exact R1 ((td_99 d0).1.mp z)
  · have d1 : cc s e d p = 102 := nI_inj (by omega) (by decide) d1
    show jt_T 59 (70, [(0, .inr (.inr (3, d, 0))), (1, .inl (nI p)), (2, .inr (.inr (2, j, 0)))], [], h) _
    refine jt_go jm_m59 14 4 (f' := (76, [(0, .inr (.inr (3, d, 0))), (1, .inl (nI p)), (2, .inr (.inr (2, j, 0)))], [.inr (.inr (6, j, 0)), .inl (nI p), .inr (.inr (3, d, 0))], h)) (P := True) rfl trivial ?_
    have eL := dg_le (cc s e d p)
    refine jt_call jm_m59 18 (mi' := 62) (as := [.inr (.inr (3, d, 0)), .inl (nI p), .inr (.inr (6, j, 0))]) (rest := []) (nxt := 79) rfl rfl jm_m62 rfl rfl (tk_fish K Y B hd qa q3 R W hp (fun i a b => A i a (by rw [d1]; exact b))) ?_
    rintro u h1 ⟨rfl, R1, F1⟩
    show jt_T 59 (79, [(0, .inr (.inr (3, d, 0))), (1, .inl (nI p)), (2, .inr (.inr (2, j, 0)))], [.inl (jm_b (sp_num s e d (p + 1) 2 < 16))], h1) _
    refine jt_zret jm_m59 19 rfl (jm_b_01 _) ?_
    refine ⟨jt_li (jm_b_congr (td_102 d1).1.symm), fun z => ?_, F1⟩
    rw [(td_102 d1).2]
    exact R1 ((td_102 d1).1.mp z)
  · have d2 : cc s e d p = 109 := nI_inj (by omega) (by decide) d2
    show jt_T 59 (63, [(0, .inr (.inr (3, d, 0))), (1, .inl (nI p)), (2, .inr (.inr (2, j, 0)))], [], h) _
    refine jt_go jm_m59 9 3 (f' := (66, [(0, .inr (.inr (3, d, 0))), (1, .inl (nI p)), (2, .inr (.inr (2, j, 0)))], [.inr (.inr (2, j, 0)), .inl (nI p), .inr (.inr (3, d, 0))], h)) (P := True) rfl trivial ?_
    have eL := dg_le (cc s e d p)
    refine jt_call jm_m59 12 (mi' := 61) (as := [.inr (.inr (3, d, 0)), .inl (nI p), .inr (.inr (2, j, 0))]) (rest := []) (nxt := 69) rfl rfl jm_m61 rfl rfl (tk_man K Y B hd qa q3 R W hp (fun i a b => A i a (by rw [d2]; exact b))) ?_
    rintro u h1 ⟨rfl, R1, F1⟩
    show jt_T 59 (69, [(0, .inr (.inr (3, d, 0))), (1, .inl (nI p)), (2, .inr (.inr (2, j, 0)))], [.inl (jm_b (sp_num s e d (p + 1) 1 ≤ 1 ∧ g 1 < 6))], h1) _
    refine jt_zret jm_m59 13 rfl (jm_b_01 _) ?_
    refine ⟨jt_li (jm_b_congr (td_109 d2).1.symm), fun z => ?_, F1⟩
    rw [(td_109 d2).2]
    exact R1 ((td_109 d2).1.mp z)
  · have d3 : cc s e d p = 119 := nI_inj (by omega) (by decide) d3
    show jt_T 59 (90, [(0, .inr (.inr (3, d, 0))), (1, .inl (nI p)), (2, .inr (.inr (2, j, 0)))], [], h) _
    refine jt_go jm_m59 26 3 (f' := (93, [(0, .inr (.inr (3, d, 0))), (1, .inl (nI p)), (2, .inr (.inr (2, j, 0)))], [.inr (.inr (2, j, 0)), .inl (nI p), .inr (.inr (3, d, 0))], h)) (P := True) rfl trivial ?_
    have eL := dg_le (cc s e d p)
    refine jt_call jm_m59 29 (mi' := 63) (as := [.inr (.inr (3, d, 0)), .inl (nI p), .inr (.inr (2, j, 0))]) (rest := []) (nxt := 96) rfl rfl jm_m63 rfl rfl (tk_name K Y B hd qa q3 R W hp (fun i a b => A i a (by rw [d3]; exact b))) ?_
    rintro u h1 ⟨rfl, R1, F1⟩
    show jt_T 59 (96, [(0, .inr (.inr (3, d, 0))), (1, .inl (nI p)), (2, .inr (.inr (2, j, 0)))], [.inl (jm_b (sp_num s e d (p + 1) 1 < g 0 ∧ (sp_num s e d (p + 2) 1 = 9 ∨ sp_num s e d (p + 2) 1 < g 1)))], h1) _
    refine jt_zret jm_m59 30 rfl (jm_b_01 _) ?_
    refine ⟨jt_li (jm_b_congr (td_119 d3).1.symm), fun z => ?_, F1⟩
    rw [(td_119 d3).2]
    exact R1 ((td_119 d3).1.mp z)
  · have d4 : cc s e d p = 120 := nI_inj (by omega) (by decide) d4
    show jt_T 59 (80, [(0, .inr (.inr (3, d, 0))), (1, .inl (nI p)), (2, .inr (.inr (2, j, 0)))], [], h) _
    refine jt_go jm_m59 20 4 (f' := (86, [(0, .inr (.inr (3, d, 0))), (1, .inl (nI p)), (2, .inr (.inr (2, j, 0)))], [.inr (.inr (6, j, 1)), .inl (nI p), .inr (.inr (3, d, 0))], h)) (P := True) rfl trivial ?_
    have eL := dg_le (cc s e d p)
    refine jt_call jm_m59 24 (mi' := 62) (as := [.inr (.inr (3, d, 0)), .inl (nI p), .inr (.inr (6, j, 1))]) (rest := []) (nxt := 89) rfl rfl jm_m62 rfl rfl (tk_mice K Y B hd qa q3 R W hp (fun i a b => A i a (by rw [d4]; exact b))) ?_
    rintro u h1 ⟨rfl, R1, F1⟩
    show jt_T 59 (89, [(0, .inr (.inr (3, d, 0))), (1, .inl (nI p)), (2, .inr (.inr (2, j, 0)))], [.inl (jm_b (sp_num s e d (p + 1) 2 < 16))], h1) _
    refine jt_zret jm_m59 25 rfl (jm_b_01 _) ?_
    refine ⟨jt_li (jm_b_congr (td_120 d4).1.symm), fun z => ?_, F1⟩
    rw [(td_120 d4).2]
    exact R1 ((td_120 d4).1.mp z)
  · have d0 : ¬ cc s e d p = 99 := fun z => d0 (by rw [z]; rfl)
    have d1 : ¬ cc s e d p = 102 := fun z => d1 (by rw [z]; rfl)
    have d2 : ¬ cc s e d p = 109 := fun z => d2 (by rw [z]; rfl)
    have d3 : ¬ cc s e d p = 119 := fun z => d3 (by rw [z]; rfl)
    have d4 : ¬ cc s e d p = 120 := fun z => d4 (by rw [z]; rfl)
    show jt_T 59 (97, [(0, .inr (.inr (3, d, 0))), (1, .inl (nI p)), (2, .inr (.inr (2, j, 0)))], [], h) _
    have dz : cc s e d p = 104 := by omega
    have eL := dg_le (cc s e d p)
    refine jt_pick (L' := [(0, .inr (.inr (3, d, 0))), (1, .inl (nI p)), (2, .inr (.inr (2, j, 0)))]) [0, 1, 2] rfl ?_
    refine jt_mono (tk_hours K Y B hd qa q3 R W hp (fun i a b => A i a (by rw [dz]; exact b))) ?_
    rintro u h1 ⟨rfl, R1, F1⟩
    refine ⟨jt_li (jm_b_congr (td_104 dz).1.symm), fun z => ?_, F1⟩
    rw [(td_104 dz).2]
    exact R1 ((td_104 dz).1.mp z)
set_option maxHeartbeats 4000000 in
set_option maxRecDepth 20000 in
theorem tk_car_s {h : jm_M} {s : Nat → Nat → Nat} {e : Nat → Nat → Int32} (K : jk_rel h s e) (Y : kw s) (B : ke s e) {d : Nat} (hd : d ≤ 7) (qa : s d 0 = 2) (q3 : s d 3 = 0) {g : Nat → Nat} (R : jf_rel h 1 g) (W : jw g) {p : Nat} (hp : p ≤ 100) {k : Nat} (hk : k ≤ p) (SS : p < s d 4 → st_bad s e d p = none) {Q : Option jm_V → jm_M → Prop} (kont : p < s d 4 → td_ok s e d p g = true → ∀ h1, jf_rel h1 1 (td_g s e d p g) → jf_fr 1 h h1 → jt_T 74 (15, [(0, .inr (.inr (0, 0, 0))), (1, .inr (.inr (3, d, 0))), (2, .inl (nI (k + 1))), (3, .inl (nI (p + dg (cc s e d p) + 2)))], [], h1) Q) (bad : p < s d 4 → ¬ td_ok s e d p g = true → ∀ h1, jf_fr 1 h h1 → Q (some (.inl ((-2000) - nI p))) h1) (fin : ¬ p < s d 4 → jt_T 74 (64, [(0, .inr (.inr (0, 0, 0))), (1, .inr (.inr (3, d, 0))), (2, .inl (nI k)), (3, .inl (nI p))], [], h) Q)  : jt_T 74 (15, [(0, .inr (.inr (0, 0, 0))), (1, .inr (.inr (3, d, 0))), (2, .inl (nI k)), (3, .inl (nI p))], [], h) (Q) := by
  have bz := kw_z Y (d := d) (by omega) qa
  refine jt_go jm_m74 9 3 (f' := (20, [(0, .inr (.inr (0, 0, 0))), (1, .inr (.inr (3, d, 0))), (2, .inl (nI k)), (3, .inl (nI p))], [.inl (h (3, d, 0) 4), .inl (nI p)], h)) (P := True) rfl trivial ?_
  refine jt_ti (show (h (3, d, 0) 4) = nI (s d 4) from jk_size K (d := d) (by omega) (by assumption)) ?_
  have bq1 := kw_z Y (d := d) (by omega) (by assumption)
  refine jt_nicge jm_m74 12 (a := p) (b := s d 4) (by omega) (by omega) (tgt := 64) (nxt := 23) rfl rfl rfl (fun c20 => ?_) (fun c20 => ?_)
  · refine jt_pick (L' := [(0, .inr (.inr (0, 0, 0))), (1, .inr (.inr (3, d, 0))), (2, .inl (nI k)), (3, .inl (nI p))]) [0, 1, 2, 3] rfl ?_
    exact fin (by omega)
  · refine jt_go jm_m74 13 2 (f' := (26, [(0, .inr (.inr (0, 0, 0))), (1, .inr (.inr (3, d, 0))), (2, .inl (nI k)), (3, .inl (nI p))], [.inl (nI 100), .inl (nI k)], h)) (P := True) rfl trivial ?_
    refine jt_nicge jm_m74 15 (a := k) (b := 100) (by omega) (by omega) (tgt := 64) (nxt := 29) rfl rfl rfl (fun c26 => ?_) (fun c26 => ?_)
    · exact absurd c26 (by omega)
    · refine jt_go jm_m74 16 4 (f' := (35, [(0, .inr (.inr (0, 0, 0))), (1, .inr (.inr (3, d, 0))), (2, .inl (nI k)), (3, .inl (nI p))], [.inr (.inr (2, 1, 0)), .inl (nI p), .inr (.inr (3, d, 0))], h)) (P := True) rfl trivial ?_
      have S := SS c20
      refine jt_call jm_m74 20 (mi' := 59) (as := [.inr (.inr (3, d, 0)), .inl (nI p), .inr (.inr (2, 1, 0))]) (rest := []) (nxt := 38) rfl rfl jm_m59 rfl rfl (tk_do K Y B hd qa q3 R W hp S) ?_
      rintro u h1 ⟨rfl, R1, F1⟩
      show jt_T 74 (38, [(0, .inr (.inr (0, 0, 0))), (1, .inr (.inr (3, d, 0))), (2, .inl (nI k)), (3, .inl (nI p))], [.inl (jm_b (td_ok s e d p g = true))], h1) _
      refine jt_ifbne jm_m74 21 (tgt := 47) (nxt := 41) rfl rfl rfl (fun c38 => ?_) (fun c38 => ?_)
      · refine jt_go jm_m74 26 3 (f' := (50, [(0, .inr (.inr (0, 0, 0))), (1, .inr (.inr (3, d, 0))), (2, .inl (nI k)), (3, .inl (nI p))], [.inl (nI p), .inr (.inr (3, d, 0)), .inl (nI p)], h1)) (P := True) rfl trivial ?_
        obtain ⟨n0, A, n59⟩ := txs_of S
        have hl := dg_pos n0
        have eg := tg_of B Y hd qa q3 (i := p) (by omega)
        have eg2 := eg.2
        have K1 := jk_mvf K F1
        refine jt_callp (w := .inl (nI (cc s e d p))) jm_m74 29 (mi' := 46) (as := [.inr (.inr (3, d, 0)), .inl (nI p)]) (rest := [.inl (nI p)]) (nxt := 53) rfl rfl jm_m46 rfl rfl (by rw [← eg.1]; exact tk_getx K1 Y (by omega) (by assumption) (by omega)) ?_
        refine jt_callp (w := .inl (nI (1 + dg (cc s e d p) + 1))) jm_m74 30 (mi' := 57) (as := [.inl (nI (cc s e d p))]) (rest := [.inl (nI p)]) (nxt := 56) rfl rfl jm_m57 rfl rfl (tk_len (by omega)) ?_
        have bdc := dg_le (cc s e d p)
        refine jt_go jm_m74 31 1 (f' := (57, [(0, .inr (.inr (0, 0, 0))), (1, .inr (.inr (3, d, 0))), (2, .inl (nI k)), (3, .inl (nI p))], [.inl ((nI p) + (nI (1 + dg (cc s e d p) + 1)))], h1)) (P := True) rfl trivial ?_
        refine jt_ti (show ((nI p) + (nI (1 + dg (cc s e d p) + 1))) = nI (p + (1 + dg (cc s e d p) + 1)) from nI_add _ _) ?_
        refine jt_go jm_m74 32 1 (f' := (58, [(3, .inl (nI (p + (1 + dg (cc s e d p) + 1)))), (0, .inr (.inr (0, 0, 0))), (1, .inr (.inr (3, d, 0))), (2, .inl (nI k))], [], h1)) (P := True) rfl trivial ?_
        refine jt_inc jm_m74 33 (c := k) (L' := [(2, .inl (nI (k + 1))), (3, .inl (nI (p + (1 + dg (cc s e d p) + 1)))), (0, .inr (.inr (0, 0, 0))), (1, .inr (.inr (3, d, 0)))]) rfl rfl rfl rfl ?_
        refine jt_go jm_m74 34 1 (f' := (15, [(2, .inl (nI (k + 1))), (3, .inl (nI (p + (1 + dg (cc s e d p) + 1)))), (0, .inr (.inr (0, 0, 0))), (1, .inr (.inr (3, d, 0)))], [], h1)) (P := True) rfl trivial ?_
        refine jt_pick (L' := [(0, .inr (.inr (0, 0, 0))), (1, .inr (.inr (3, d, 0))), (2, .inl (nI (k + 1))), (3, .inl (nI (p + (1 + dg (cc s e d p) + 1))))]) [2, 3, 0, 1] rfl ?_
        have q := kont c20 c38 h1 (R1 c38) F1
        rw [show p + dg (cc s e d p) + 2 = p + (1 + dg (cc s e d p) + 1) by omega] at q
        exact q
      · refine jt_go jm_m74 22 3 (f' := (46, [(0, .inr (.inr (0, 0, 0))), (1, .inr (.inr (3, d, 0))), (2, .inl (nI k)), (3, .inl (nI p))], [.inl ((-2000) - (nI p))], h1)) (P := True) rfl trivial ?_
        refine jt_iret jm_m74 25 rfl ?_
        exact bad c20 c38 h1 F1
/-- all but the frontiers 0 and 1 is as it was -/
def jq_fr (h h2 : jm_M) : Prop := ∀ k : jm_K, ¬ ((k.1 = 2 ∨ k.1 = 6) ∧ (k.2.1 = 0 ∨ k.2.1 = 1)) → h2 k = h k
theorem jq_rf {h : jm_M} : jq_fr h h := fun _ _ => rfl
theorem jq_tr {h h2 h3 : jm_M} (a : jq_fr h h2) (b : jq_fr h2 h3) : jq_fr h h3 := fun k q => (b k q).trans (a k q)
theorem jq_0 {h h2 : jm_M} (a : jf_fr 0 h h2) : jq_fr h h2 := fun k q => a k (fun z => q ⟨z.1, Or.inl z.2⟩)
theorem jq_1 {h h2 : jm_M} (a : jf_fr 1 h h2) : jq_fr h h2 := fun k q => a k (fun z => q ⟨z.1, Or.inr z.2⟩)
set_option maxHeartbeats 4000000 in
set_option maxRecDepth 20000 in
theorem tk_car_e {h : jm_M} {d p k : Nat} {g : Nat → Nat} (R : jf_rel h 1 g) (W : jw g)  : jt_T 74 (64, [(0, .inr (.inr (0, 0, 0))), (1, .inr (.inr (3, d, 0))), (2, .inl (nI k)), (3, .inl (nI p))], [], h) (fun u h' => u = some (.inl (nI k)) ∧ jf_rel h' 0 g ∧ jf_fr 0 h h') := by
  refine jt_go jm_m74 35 4 (f' := (72, [(0, .inr (.inr (0, 0, 0))), (1, .inr (.inr (3, d, 0))), (2, .inl (nI k)), (3, .inl (nI p))], [.inr (.inr (2, 1, 0)), .inr (.inr (2, 0, 0))], h)) (P := True) rfl trivial ?_
  refine jt_call jm_m74 39 (mi' := 6) (as := [.inr (.inr (2, 0, 0)), .inr (.inr (2, 1, 0))]) (rest := []) (nxt := 75) rfl rfl jm_m6 rfl rfl (ta_becomes (i := 1) (j := 0) R W (by decide)) ?_
  rintro u h1 ⟨rfl, R1, F1⟩
  show jt_T 74 (75, [(0, .inr (.inr (0, 0, 0))), (1, .inr (.inr (3, d, 0))), (2, .inl (nI k)), (3, .inl (nI p))], [], h1) _
  refine jt_go jm_m74 40 1 (f' := (76, [(0, .inr (.inr (0, 0, 0))), (1, .inr (.inr (3, d, 0))), (2, .inl (nI k)), (3, .inl (nI p))], [.inl (nI k)], h1)) (P := True) rfl trivial ?_
  refine jt_iret jm_m74 41 rfl ?_
  exact ⟨rfl, R1, F1⟩
theorem tk_car_n {s : Nat → Nat → Nat} {e : Nat → Nat → Int32} (Y : kw s) (B : ke s e) {d : Nat} (hd : d ≤ 7) (qa : s d 0 = 2) (q3 : s d 3 = 0) : ∀ (n p k : Nat) (g : Nat → Nat) (h : jm_M), jk_rel h s e → jf_rel h 1 g → jw g → p ≤ 100 → k ≤ p → s d 4 < p + n → (p < s d 4 → tx_bad s e d n p = none) → jt_T 74 (15, [(0, .inr (.inr (0, 0, 0))), (1, .inr (.inr (3, d, 0))), (2, .inl (nI k)), (3, .inl (nI p))], [], h) (fun u h' => ((tx_f s e d n p g).1 = none → u = some (.inl (nI (k + tx_n s e d n p))) ∧ jf_rel h' 0 (tx_f s e d n p g).2) ∧ (∀ q, (tx_f s e d n p g).1 = some q → u = some (.inl ((-2000) - nI q)) ∧ jf_fr 1 h h') ∧ jq_fr h h')
  | 0, p, k, g, h, K, R, W, hp, hk, hn, hb => by
    have q : ¬ p < s d 4 := by omega
    refine tk_car_s K Y B hd qa q3 R W hp (k := k) (by omega) (fun z => absurd z q) (fun z => absurd z q) (fun z => absurd z q) (fun _ => ?_)
    refine jt_mono (tk_car_e R W) (fun u h2 z => ?_)
    rw [tx_f_e q, tx_n_e q]
    exact ⟨fun _ => ⟨z.1, z.2.1⟩, fun q2 h2 => (by cases h2), jq_0 z.2.2⟩
  | n + 1, p, k, g, h, K, R, W, hp, hk, hn, hb => by
    have bz := kw_z Y (d := d) (by omega) qa
    refine tk_car_s K Y B hd qa q3 R W hp (k := k) (by omega) (fun z => (tx_b_s (hb z)).1) (fun c o h1 R1 F1 => ?_) (fun c o h1 F1 => ?_) (fun q => ?_)
    · have b := tx_b_s (hb c)
      have hin := txs_in b.1
      refine jt_mono (tk_car_n Y B hd qa q3 n (p + dg (cc s e d p) + 2) (k + 1) (td_g s e d p g) h1 (jk_mvf K F1) R1 (td_jw b.1 W o) (by omega) (by omega) (by omega) b.2) (fun u h2 z => ?_)
      rw [tx_f_s c, if_pos o, tx_n_s c, show k + (tx_n s e d n (p + dg (cc s e d p) + 2) + 1) = k + 1 + tx_n s e d n (p + dg (cc s e d p) + 2) by omega]
      exact ⟨z.1, fun q hq => ⟨(z.2.1 q hq).1, jf_fr_tr F1 (z.2.1 q hq).2⟩, jq_tr (jq_1 F1) z.2.2⟩
    · rw [tx_f_s c, if_neg o]
      exact ⟨fun z => (by cases z), fun q hq => (by cases hq; exact ⟨rfl, F1⟩), jq_1 F1⟩
    · refine jt_mono (tk_car_e R W) (fun u h2 z => ?_)
      rw [tx_f_e q, tx_n_e q]
      exact ⟨fun _ => ⟨z.1, z.2.1⟩, fun q2 h2 => (by cases h2), jq_0 z.2.2⟩
set_option maxHeartbeats 4000000 in
set_option maxRecDepth 20000 in
theorem tk_car {h : jm_M} {s : Nat → Nat → Nat} {e : Nat → Nat → Int32} (K : jk_rel h s e) (Y : kw s) (B : ke s e) {d : Nat} (hd : d ≤ 7) (qa : s d 0 = 2) (q3 : s d 3 = 0) {g : Nat → Nat} (R : jf_rel h 0 g) (W : jw g) (TB : tx_bad s e d (s d 4 + 1) 0 = none)  : jt_T 74 (0, [(0, .inr (.inr (0, 0, 0))), (1, .inr (.inr (3, d, 0)))], [], h) (fun u h' => ((tx_f s e d (s d 4 + 1) 0 g).1 = none → u = some (.inl (nI (tx_n s e d (s d 4 + 1) 0))) ∧ jf_rel h' 0 (tx_f s e d (s d 4 + 1) 0 g).2) ∧ (∀ q, (tx_f s e d (s d 4 + 1) 0 g).1 = some q → u = some (.inl ((-2000) - nI q)) ∧ jf_fr 1 h h') ∧ jq_fr h h') := by
  refine jt_go jm_m74 0 4 (f' := (8, [(0, .inr (.inr (0, 0, 0))), (1, .inr (.inr (3, d, 0)))], [.inr (.inr (2, 0, 0)), .inr (.inr (2, 1, 0))], h)) (P := True) rfl trivial ?_
  refine jt_call jm_m74 4 (mi' := 6) (as := [.inr (.inr (2, 1, 0)), .inr (.inr (2, 0, 0))]) (rest := []) (nxt := 11) rfl rfl jm_m6 rfl rfl (ta_becomes (i := 0) (j := 1) R W (by decide)) ?_
  rintro u h1 ⟨rfl, R1, F1⟩
  show jt_T 74 (11, [(0, .inr (.inr (0, 0, 0))), (1, .inr (.inr (3, d, 0)))], [], h1) _
  refine jt_go jm_m74 5 4 (f' := (15, [(3, .inl (nI 0)), (2, .inl (nI 0)), (0, .inr (.inr (0, 0, 0))), (1, .inr (.inr (3, d, 0)))], [], h1)) (P := True) rfl trivial ?_
  refine jt_pick (L' := [(0, .inr (.inr (0, 0, 0))), (1, .inr (.inr (3, d, 0))), (2, .inl (nI 0)), (3, .inl (nI 0))]) [2, 3, 1, 0] rfl ?_
  have bz := kw_z Y (d := d) (by omega) qa
  refine jt_mono (tk_car_n Y B hd qa q3 (s d 4 + 1) 0 0 g h1 (jk_mvf K F1) R1 W (by omega) (by omega) (by omega) (fun _ => TB)) (fun u h2 z => ?_)
  rw [Nat.zero_add] at z
  exact ⟨z.1, fun q hq => ⟨(z.2.1 q hq).1, jf_fr_tr F1 (z.2.1 q hq).2⟩, jq_tr (jq_1 F1) z.2.2⟩
def zb_frontier (g : Nat → Nat) (s : Nat → Nat → Nat) (e : Nat → Nat → Int32) (d : Nat) : Int32 := if s d 3 = 0 then (if tx_v (tx_bad s e d (s d 4 + 1) 0) = (-1) then (match (tx_f s e d (s d 4 + 1) 0 g).1 with | some q => (-2000) - nI q | none => nI (tx_n s e d (s d 4 + 1) 0)) else (-1000) - tx_v (tx_bad s e d (s d 4 + 1) 0)) else (-12)
def za_frontier (g : Nat → Nat) (s : Nat → Nat → Nat) (e : Nat → Nat → Int32) (x : Int32) : Int32 := if zr_h 2 s x = nI 0 then zb_frontier g s e x.toNatClampNeg else zr_h 2 s x
def zn_frontier (g : Nat → Nat) (s : Nat → Nat → Nat) (e : Nat → Nat → Int32) (d : Nat) : Nat → Nat := if s d 3 = 0 ∧ tx_bad s e d (s d 4 + 1) 0 = none ∧ (tx_f s e d (s d 4 + 1) 0 g).1 = none then (tx_f s e d (s d 4 + 1) 0 g).2 else g
def zm_frontier (g : Nat → Nat) (s : Nat → Nat → Nat) (e : Nat → Nat → Int32) (x : Int32) : Nat → Nat := if zr_h 2 s x = nI 0 then zn_frontier g s e x.toNatClampNeg else g
theorem jw_frontier {g : Nat → Nat} {s : Nat → Nat → Nat} {e : Nat → Nat → Int32} (W : jw g) (x : Int32) : jw (zm_frontier g s e x) := by
  unfold zm_frontier
  split
  · unfold zn_frontier
    split
    · rename_i c
      exact tx_f_jw _ _ _ W (fun _ => c.2.1)
    · exact W
  · exact W
theorem tx_v_no {s : Nat → Nat → Nat} {e : Nat → Nat → Int32} {d n : Nat} (h4 : s d 4 ≤ 100) : tx_v (tx_bad s e d n 0) = (-1) ↔ tx_bad s e d n 0 = none := by
  constructor
  · intro h
    cases q : tx_bad s e d n 0 with
    | none => rfl
    | some z =>
      rw [q] at h
      have := tx_bad_le h4 n 0 z (by omega) q
      exact absurd h (fun w => nI_neg (a := z) (by omega) (by show nI z < 0; rw [show nI z = -1 from w]; decide))
  · intro h; rw [h]; rfl
theorem za_fr_at {g : Nat → Nat} {s : Nat → Nat → Nat} {e : Nat → Nat → Int32} {d : Nat} (hd : d ≤ 7) (q0 : zr_h 2 s (nI d) = nI 0) : za_frontier g s e (nI d) = zb_frontier g s e d ∧ zm_frontier g s e (nI d) = zn_frontier g s e d := by
  unfold za_frontier zm_frontier
  rw [if_pos q0, if_pos q0, nI_clamp (by omega)]
  exact ⟨rfl, rfl⟩
theorem za_fr_no {g : Nat → Nat} {s : Nat → Nat → Nat} {e : Nat → Nat → Int32} {x : Int32} (q0 : ¬ zr_h 2 s x = nI 0) : za_frontier g s e x = zr_h 2 s x ∧ zm_frontier g s e x = g := by
  unfold za_frontier zm_frontier
  rw [if_neg q0, if_neg q0]
  exact ⟨rfl, rfl⟩
set_option maxHeartbeats 4000000 in
set_option maxRecDepth 20000 in
theorem ca_frontier {h : jm_M} {s : Nat → Nat → Nat} {e : Nat → Nat → Int32} (K : jk_rel h s e) (Y : kw s) (B : ke s e) {g : Nat → Nat} (R : jf_rel h 0 g) (W : jw g) {x : Int32}  : jt_T 73 (0, [(0, .inr (.inr (0, 0, 0))), (1, .inl (x))], [], h) (fun u h' => u = some (.inl (za_frontier g s e x)) ∧ jf_rel h' 0 (zm_frontier g s e x) ∧ jq_fr h h') := by
  refine jt_go jm_m73 0 2 (f' := (2, [(0, .inr (.inr (0, 0, 0))), (1, .inl (x))], [.inl (x), .inr (.inr (0, 0, 0))], h)) (P := True) rfl trivial ?_
  refine jt_callp (w := .inl (zr_h 2 s x)) jm_m73 2 (mi' := 133) (as := [.inr (.inr (0, 0, 0)), .inl (x)]) (rest := []) (nxt := 5) rfl rfl jm_m133 rfl rfl (tk_row K Y) ?_
  rcases zr_cs (x := x) Y (Or.inr rfl) with ⟨qn, q0⟩ | ⟨d, hd, rfl, qa, q0⟩ | ⟨d, hd, rfl, qa, q0⟩ | ⟨d, hd, rfl, qa, q0⟩
  · refine jt_ti (show zr_h 2 s x = (-1) from q0) ?_
    show jt_T 73 (5, [(0, .inr (.inr (0, 0, 0))), (1, .inl (x))], [.inl ((-1))], h) _
    refine jt_go jm_m73 3 2 (f' := (7, [(2, .inl ((-1))), (0, .inr (.inr (0, 0, 0))), (1, .inl (x))], [.inl ((-1))], h)) (P := True) rfl trivial ?_
    refine jt_ifeq jm_m73 5 (tgt := 12) (nxt := 10) rfl rfl rfl (fun c7 => ?_) (fun c7 => ?_)
    · exact absurd c7 (by decide)
    · refine jt_go jm_m73 6 1 (f' := (11, [(2, .inl ((-1))), (0, .inr (.inr (0, 0, 0))), (1, .inl (x))], [.inl ((-1))], h)) (P := True) rfl trivial ?_
      refine jt_iret jm_m73 7 rfl ?_
      have zz := za_fr_no (g := g) (e := e) (show ¬ zr_h 2 s x = nI 0 by rw [q0]; decide)
      rw [zz.1, zz.2, q0]
      exact ⟨rfl, R, jq_rf⟩
  · refine jt_ti (show zr_h 2 s (nI d) = (-11) from q0) ?_
    show jt_T 73 (5, [(0, .inr (.inr (0, 0, 0))), (1, .inl (nI d))], [.inl ((-11))], h) _
    refine jt_go jm_m73 3 2 (f' := (7, [(2, .inl ((-11))), (0, .inr (.inr (0, 0, 0))), (1, .inl (nI d))], [.inl ((-11))], h)) (P := True) rfl trivial ?_
    refine jt_ifeq jm_m73 5 (tgt := 12) (nxt := 10) rfl rfl rfl (fun c7 => ?_) (fun c7 => ?_)
    · exact absurd c7 (by decide)
    · refine jt_go jm_m73 6 1 (f' := (11, [(2, .inl ((-11))), (0, .inr (.inr (0, 0, 0))), (1, .inl (nI d))], [.inl ((-11))], h)) (P := True) rfl trivial ?_
      refine jt_iret jm_m73 7 rfl ?_
      have zz := za_fr_no (g := g) (e := e) (show ¬ zr_h 2 s (nI d) = nI 0 by rw [q0]; decide)
      rw [zz.1, zz.2, q0]
      exact ⟨rfl, R, jq_rf⟩
  · refine jt_ti (show zr_h 2 s (nI d) = (-12) from q0) ?_
    show jt_T 73 (5, [(0, .inr (.inr (0, 0, 0))), (1, .inl (nI d))], [.inl ((-12))], h) _
    refine jt_go jm_m73 3 2 (f' := (7, [(2, .inl ((-12))), (0, .inr (.inr (0, 0, 0))), (1, .inl (nI d))], [.inl ((-12))], h)) (P := True) rfl trivial ?_
    refine jt_ifeq jm_m73 5 (tgt := 12) (nxt := 10) rfl rfl rfl (fun c7 => ?_) (fun c7 => ?_)
    · exact absurd c7 (by decide)
    · refine jt_go jm_m73 6 1 (f' := (11, [(2, .inl ((-12))), (0, .inr (.inr (0, 0, 0))), (1, .inl (nI d))], [.inl ((-12))], h)) (P := True) rfl trivial ?_
      refine jt_iret jm_m73 7 rfl ?_
      have zz := za_fr_no (g := g) (e := e) (show ¬ zr_h 2 s (nI d) = nI 0 by rw [q0]; decide)
      rw [zz.1, zz.2, q0]
      exact ⟨rfl, R, jq_rf⟩
  · refine jt_ti (show zr_h 2 s (nI d) = nI 0 from q0) ?_
    show jt_T 73 (5, [(0, .inr (.inr (0, 0, 0))), (1, .inl (nI d))], [.inl (nI 0)], h) _
    refine jt_go jm_m73 3 2 (f' := (7, [(2, .inl (nI 0)), (0, .inr (.inr (0, 0, 0))), (1, .inl (nI d))], [.inl (nI 0)], h)) (P := True) rfl trivial ?_
    refine jt_nifeq jm_m73 5 (by omega) (tgt := 12) (nxt := 10) rfl rfl rfl (fun c7 => ?_) (fun c7 => ?_)
    · refine jt_go jm_m73 8 4 (f' := (18, [(2, .inl (nI 0)), (0, .inr (.inr (0, 0, 0))), (1, .inl (nI d))], [.inr (.inr (3, (nI d).toNatClampNeg, 0))], h)) (P := vp_in (nI d) 8 ∧ True) rfl ⟨(vp_in_nI (by omega) (by decide)), trivial⟩ ?_
      refine jt_tr (show ((3, (nI d).toNatClampNeg, 0) : jm_K) = (3, d, 0) by rw [nI_clamp (by omega)]) ?_
      refine jt_go jm_m73 12 3 (f' := (23, [(3, .inr (.inr (3, d, 0))), (2, .inl (nI 0)), (0, .inr (.inr (0, 0, 0))), (1, .inl (nI d))], [.inl (h (3, d, 0) 3)], h)) (P := True) rfl trivial ?_
      refine jt_ti (show (h (3, d, 0) 3) = nI (s d 3) from jk_sort K (d := d) (by omega) (by assumption)) ?_
      have bq1 := kw_s Y (d := d) (by omega) (by assumption)
      refine jt_nifeq jm_m73 15 (by omega) (tgt := 29) (nxt := 26) rfl rfl rfl (fun c23 => ?_) (fun c23 => ?_)
      · refine jt_go jm_m73 18 1 (f' := (30, [(3, .inr (.inr (3, d, 0))), (2, .inl (nI 0)), (0, .inr (.inr (0, 0, 0))), (1, .inl (nI d))], [.inr (.inr (3, d, 0))], h)) (P := True) rfl trivial ?_
        refine jt_callp (w := .inl (tx_v (tx_bad s e d (s d 4 + 1) 0))) jm_m73 19 (mi' := 58) (as := [.inr (.inr (3, d, 0))]) (rest := []) (nxt := 33) rfl rfl jm_m58 rfl rfl (tk_bad K Y B hd qa (by assumption)) ?_
        refine jt_go jm_m73 20 3 (f' := (38, [(4, .inl (tx_v (tx_bad s e d (s d 4 + 1) 0))), (3, .inr (.inr (3, d, 0))), (2, .inl (nI 0)), (0, .inr (.inr (0, 0, 0))), (1, .inl (nI d))], [.inl ((-1)), .inl (tx_v (tx_bad s e d (s d 4 + 1) 0))], h)) (P := True) rfl trivial ?_
        refine jt_iceq jm_m73 23 (tgt := 48) (nxt := 41) rfl rfl rfl (fun c38 => ?_) (fun c38 => ?_)
        · refine jt_go jm_m73 28 2 (f' := (50, [(4, .inl (tx_v (tx_bad s e d (s d 4 + 1) 0))), (3, .inr (.inr (3, d, 0))), (2, .inl (nI 0)), (0, .inr (.inr (0, 0, 0))), (1, .inl (nI d))], [.inr (.inr (3, d, 0)), .inr (.inr (0, 0, 0))], h)) (P := True) rfl trivial ?_
          have bz := kw_z Y (d := d) (by omega) qa
          have TB := (tx_v_no bz).mp c38
          refine jt_call jm_m73 30 (mi' := 74) (as := [.inr (.inr (0, 0, 0)), .inr (.inr (3, d, 0))]) (rest := []) (nxt := 53) rfl rfl jm_m74 rfl rfl (tk_car K Y B hd qa c23 R W TB) ?_
          rintro u h1 ⟨P1, P2, F1⟩
          have zz := za_fr_at (g := g) (e := e) hd q0
          rw [zz.1, zz.2]
          unfold zb_frontier zn_frontier
          rw [if_pos c23, if_pos c38]
          cases qf : (tx_f s e d (s d 4 + 1) 0 g).1 with
          | none =>
            obtain ⟨rfl, R1⟩ := P1 qf
            rw [if_pos ⟨c23, TB, rfl⟩]
            exact jt_iret jm_m73 31 rfl ⟨rfl, R1, F1⟩
          | some q =>
            obtain ⟨rfl, F2⟩ := P2 q qf
            rw [if_neg (fun z => by cases z.2.2)]
            exact jt_iret jm_m73 31 rfl ⟨rfl, jf_mov0 R F2, F1⟩
        · refine jt_go jm_m73 24 3 (f' := (47, [(4, .inl (tx_v (tx_bad s e d (s d 4 + 1) 0))), (3, .inr (.inr (3, d, 0))), (2, .inl (nI 0)), (0, .inr (.inr (0, 0, 0))), (1, .inl (nI d))], [.inl ((-1000) - (tx_v (tx_bad s e d (s d 4 + 1) 0)))], h)) (P := True) rfl trivial ?_
          refine jt_iret jm_m73 27 rfl ?_
          have zz := za_fr_at (g := g) (e := e) hd q0
          rw [zz.1, zz.2]
          unfold zb_frontier zn_frontier
          have bz := kw_z Y (d := d) (by omega) qa
          rw [if_pos c23, if_neg c38, if_neg (fun z => c38 ((tx_v_no bz).mpr z.2.1))]
          exact ⟨rfl, R, jq_rf⟩
      · refine jt_go jm_m73 16 1 (f' := (28, [(3, .inr (.inr (3, d, 0))), (2, .inl (nI 0)), (0, .inr (.inr (0, 0, 0))), (1, .inl (nI d))], [.inl ((-12))], h)) (P := True) rfl trivial ?_
        refine jt_iret jm_m73 17 rfl ?_
        have zz := za_fr_at (g := g) (e := e) hd q0
        rw [zz.1, zz.2]
        unfold zb_frontier zn_frontier
        rw [if_neg c23, if_neg (fun z => c23 z.1)]
        exact ⟨rfl, R, jq_rf⟩
    · exact absurd c7 (by decide)
