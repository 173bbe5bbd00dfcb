/-! THE FACE: shaving, bribes, crossing together. -/
def sp_sv (g : Nat → Nat) (n k : Nat) : Nat := sp_cnt (sp_pb (sp_it (sp_up g (39 + 5 * k) 0) n))
def sp_shv (g : Nat → Nat) (n : Nat) : Nat → Option Nat × Nat
  | 0 => (none, sp_cnt (sp_pb (sp_it g n)))
  | k + 1 => if (sp_shv g n k).2 < sp_sv g n k then (some k, sp_sv g n k) else sp_shv g n k
def sp_tog (g : Nat → Nat) : Nat → Nat × Option Nat
  | 0 => (0, none)
  | k + 1 => if sp_cnt (sp_tog g k).1 < sp_cnt (sp_set (sp_it g k) false) then (sp_set (sp_it g k) false, some (k + 1)) else sp_tog g k
theorem sp_tog_lt {g : Nat → Nat} (W : jw g) : ∀ k, (sp_tog g k).1 < 64 := by
  intro k
  induction k with
  | zero => show 0 < 64; decide
  | succ k ih =>
    unfold sp_tog
    split
    · exact sp_set_lt (jw_it W k).1
    · exact ih
theorem sp_shv_lt {g : Nat → Nat} (W : jw g) (n : Nat) : ∀ k, k ≤ 6 → (sp_shv g n k).2 ≤ 7 := by
  intro k
  induction k with
  | zero => intro _; exact sp_cnt_le _ (Nat.lt_trans (jw_pb (jw_it W n).1) (by decide))
  | succ k ih =>
    intro hk
    unfold sp_shv
    split
    · exact sp_cnt_le _ (Nat.lt_trans (jw_pb (jw_it (jw_up_hair W (by omega) (by omega)) n).1) (by decide))
    · exact ih (by omega)
set_option maxHeartbeats 4000000 in
set_option maxRecDepth 20000 in
theorem ca_shave_l {h : jm_M} {g : Nat → Nat} (W : jw g) {n : Nat} (hnn : n ≤ 99) : ∀ k, k ≤ g 0 → ∀ hm : jm_M, (jf_rel hm 0 g) → (jf_fr 1 h hm) → jt_T 101 (31, [(0, .inr (.inr (0, 0, 0))), (1, .inl (nI n)), (2, .inl (nI ((sp_shv g n k).2))), (3, .inl (jo (sp_shv g n k).1)), (4, .inl (nI k))], [], hm) (fun u h' => u = some (.inl (jo (sp_shv g n (g 0)).1)) ∧ jf_fr 1 h h') := jx_up (P := fun k => ∀ hm : jm_M, (jf_rel hm 0 g) → (jf_fr 1 h hm) → jt_T 101 (31, [(0, .inr (.inr (0, 0, 0))), (1, .inl (nI n)), (2, .inl (nI ((sp_shv g n k).2))), (3, .inl (jo (sp_shv g n k).1)), (4, .inl (nI k))], [], hm) (fun u h' => u = some (.inl (jo (sp_shv g n (g 0)).1)) ∧ jf_fr 1 h h')) (fun k hk nx hm Zm Fm => by
  have bn := jw_n W
  have bm := jw_m W
  have bt := jw_t W
  have bz := sp_shv_lt W n k (by omega)
  refine jt_go jm_m101 17 4 (f' := (40, [(0, .inr (.inr (0, 0, 0))), (1, .inl (nI n)), (2, .inl (nI ((sp_shv g n k).2))), (3, .inl (jo (sp_shv g n k).1)), (4, .inl (nI k))], [.inl (hm (2, 0, 0) 9), .inl (nI k)], hm)) (P := True) rfl trivial ?_
  refine jt_ti (show (hm (2, 0, 0) 9) = nI (g 0) from jf_cats Zm) ?_
  have bq1 := jw_n W
  refine jt_nicge jm_m101 21 (a := k) (b := g 0) (by omega) (by omega) (tgt := 103) (nxt := 43) rfl rfl rfl (fun c40 => ?_) (fun c40 => ?_)
  · refine jt_go jm_m101 51 1 (f' := (104, [(0, .inr (.inr (0, 0, 0))), (1, .inl (nI n)), (2, .inl (nI ((sp_shv g n k).2))), (3, .inl (jo (sp_shv g n k).1)), (4, .inl (nI k))], [.inl (jo (sp_shv g n k).1)], hm)) (P := True) rfl trivial ?_
    refine jt_iret jm_m101 52 rfl ?_
    have e : k = g 0 := by omega
    subst e
    exact ⟨rfl, Fm⟩
  · refine jt_go jm_m101 22 4 (f' := (51, [(0, .inr (.inr (0, 0, 0))), (1, .inl (nI n)), (2, .inl (nI ((sp_shv g n k).2))), (3, .inl (jo (sp_shv g n k).1)), (4, .inl (nI k))], [.inr (.inr (2, 0, 0)), .inr (.inr (2, 1, 0))], hm)) (P := True) rfl trivial ?_
    refine jt_call jm_m101 26 (mi' := 6) (as := [.inr (.inr (2, 1, 0)), .inr (.inr (2, 0, 0))]) (rest := []) (nxt := 54) rfl rfl jm_m6 rfl rfl (ta_becomes Zm W (by decide)) ?_
    rintro u h1 ⟨rfl, Rh1, Fh1⟩
    show jt_T 101 (54, [(0, .inr (.inr (0, 0, 0))), (1, .inl (nI n)), (2, .inl (nI ((sp_shv g n k).2))), (3, .inl (jo (sp_shv g n k).1)), (4, .inl (nI k))], [], h1) _
    have Rh1 : jf_rel h1 1 g := Rh1
    have Wh1 : jw (g) := W
    have Zh1 := jf_mov0 Zm Fh1
    have Fh1 := jf_fr_tr Fm Fh1
    refine jt_goM jm_m101 27 6 (pc' := 65) (L' := [(0, .inr (.inr (0, 0, 0))), (1, .inl (nI n)), (2, .inl (nI ((sp_shv g n k).2))), (3, .inl (jo (sp_shv g n k).1)), (4, .inl (nI k))]) (st' := []) (m' := jm_set h1 (2, 1, 4) (upd (h1 (2, 1, 4)) (nI k).toNatClampNeg (nI 0))) (P := vp_in (nI k) 6 ∧ True) rfl ⟨(vp_in_nI (by omega) (by decide)), trivial⟩ (fun h2 eh2 => ?_)
    have Rh2 : jf_rel h2 1 (sp_up g (39 + 5 * k) 0) := by rw [eh2]; exact jf_set_hair Rh1 (c := k) (w := 0) (nI_clamp (by omega)) (by omega) rfl
    have Wh2 : jw (sp_up g (39 + 5 * k) 0) := jw_up_hair W (by omega) (by omega)
    have Fh2 : jf_fr 1 h h2 := by rw [eh2]; exact jf_fr_set Fh1 ⟨Or.inl rfl, rfl⟩
    have Gh2 : jf_fr 1 h1 h2 := by rw [eh2]; exact jf_fr_set jf_fr_rf ⟨Or.inl rfl, rfl⟩
    have Zh2 := jf_mov0 Zh1 Gh2
    refine jt_go jm_m101 33 3 (f' := (70, [(0, .inr (.inr (0, 0, 0))), (1, .inl (nI n)), (2, .inl (nI ((sp_shv g n k).2))), (3, .inl (jo (sp_shv g n k).1)), (4, .inl (nI k))], [.inl (nI n), .inr (.inr (2, 1, 0))], h2)) (P := True) rfl trivial ?_
    refine jt_call jm_m101 36 (mi' := 17) (as := [.inr (.inr (2, 1, 0)), .inl (nI n)]) (rest := []) (nxt := 73) rfl rfl jm_m17 rfl rfl (ta_goOn Rh2 Wh2 (by omega)) ?_
    rintro u h3 ⟨rfl, Rh3, Fh3⟩
    show jt_T 101 (73, [(0, .inr (.inr (0, 0, 0))), (1, .inl (nI n)), (2, .inl (nI ((sp_shv g n k).2))), (3, .inl (jo (sp_shv g n k).1)), (4, .inl (nI k))], [], h3) _
    have Rh3 : jf_rel h3 1 (sp_it (sp_up g (39 + 5 * k) 0) n) := Rh3
    have Wh3 : jw (sp_it (sp_up g (39 + 5 * k) 0) n) := (jw_it Wh2 _).1
    have Zh3 := jf_mov0 Zh2 Fh3
    have Fh3 := jf_fr_tr Fh2 Fh3
    refine jt_go jm_m101 37 3 (f' := (80, [(0, .inr (.inr (0, 0, 0))), (1, .inl (nI n)), (2, .inl (nI ((sp_shv g n k).2))), (3, .inl (jo (sp_shv g n k).1)), (4, .inl (nI k))], [.inl (h3 (2, 1, 0) 13)], h3)) (P := True) rfl trivial ?_
    refine jt_ti (show (h3 (2, 1, 0) 13) = nI (sp_pb (sp_it (sp_up g (39 + 5 * k) 0) n)) from jf_pass Rh3) ?_
    have bq2 := jw_pb Wh3
    refine jt_callp (w := .inl (nI (sp_cnt (sp_pb (sp_it (sp_up g (39 + 5 * k) 0) n))))) jm_m101 40 (mi' := 238) (as := [.inl (nI (sp_pb (sp_it (sp_up g (39 + 5 * k) 0) n)))]) (rest := []) (nxt := 83) rfl rfl jm_m238 rfl rfl (tj_bits (by omega)) ?_
    have bq3 := sp_cnt_le (sp_pb (sp_it (sp_up g (39 + 5 * k) 0) n)) (by omega)
    refine jt_go jm_m101 41 3 (f' := (88, [(5, .inl (nI (sp_cnt (sp_pb (sp_it (sp_up g (39 + 5 * k) 0) n))))), (0, .inr (.inr (0, 0, 0))), (1, .inl (nI n)), (2, .inl (nI ((sp_shv g n k).2))), (3, .inl (jo (sp_shv g n k).1)), (4, .inl (nI k))], [.inl (nI ((sp_shv g n k).2)), .inl (nI (sp_cnt (sp_pb (sp_it (sp_up g (39 + 5 * k) 0) n))))], h3)) (P := True) rfl trivial ?_
    refine jt_nicle jm_m101 44 (a := sp_cnt (sp_pb (sp_it (sp_up g (39 + 5 * k) 0) n))) (b := (sp_shv g n k).2) (by omega) (by omega) (tgt := 97) (nxt := 91) rfl rfl rfl (fun c88 => ?_) (fun c88 => ?_)
    · have c88 : ¬ (sp_shv g n k).2 < sp_sv g n k := Nat.not_lt.mpr c88
      refine jt_inc jm_m101 49 (c := k) (L' := [(4, .inl (nI (k + 1))), (5, .inl (nI (sp_cnt (sp_pb (sp_it (sp_up g (39 + 5 * k) 0) n))))), (0, .inr (.inr (0, 0, 0))), (1, .inl (nI n)), (2, .inl (nI ((sp_shv g n k).2))), (3, .inl (jo (sp_shv g n k).1))]) rfl rfl rfl rfl ?_
      refine jt_go jm_m101 50 1 (f' := (31, [(4, .inl (nI (k + 1))), (5, .inl (nI (sp_cnt (sp_pb (sp_it (sp_up g (39 + 5 * k) 0) n))))), (0, .inr (.inr (0, 0, 0))), (1, .inl (nI n)), (2, .inl (nI ((sp_shv g n k).2))), (3, .inl (jo (sp_shv g n k).1))], [], h3)) (P := True) rfl trivial ?_
      refine jt_pick (L' := [(0, .inr (.inr (0, 0, 0))), (1, .inl (nI n)), (2, .inl (nI ((sp_shv g n k).2))), (3, .inl (jo (sp_shv g n k).1)), (4, .inl (nI (k + 1)))]) [2, 3, 4, 5, 0] rfl ?_
      have e : sp_shv g n (k + 1) = sp_shv g n k := if_neg (by first | assumption | omega)
      have q := nx (by omega) h3 Zh3 Fh3
      rw [e] at q
      exact q
    · have c88 : (sp_shv g n k).2 < sp_sv g n k := c88
      refine jt_go jm_m101 45 4 (f' := (97, [(3, .inl (nI k)), (2, .inl (nI (sp_cnt (sp_pb (sp_it (sp_up g (39 + 5 * k) 0) n))))), (5, .inl (nI (sp_cnt (sp_pb (sp_it (sp_up g (39 + 5 * k) 0) n))))), (0, .inr (.inr (0, 0, 0))), (1, .inl (nI n)), (4, .inl (nI k))], [], h3)) (P := True) rfl trivial ?_
      refine jt_inc jm_m101 49 (c := k) (L' := [(4, .inl (nI (k + 1))), (3, .inl (nI k)), (2, .inl (nI (sp_cnt (sp_pb (sp_it (sp_up g (39 + 5 * k) 0) n))))), (5, .inl (nI (sp_cnt (sp_pb (sp_it (sp_up g (39 + 5 * k) 0) n))))), (0, .inr (.inr (0, 0, 0))), (1, .inl (nI n))]) rfl rfl rfl rfl ?_
      refine jt_go jm_m101 50 1 (f' := (31, [(4, .inl (nI (k + 1))), (3, .inl (nI k)), (2, .inl (nI (sp_cnt (sp_pb (sp_it (sp_up g (39 + 5 * k) 0) n))))), (5, .inl (nI (sp_cnt (sp_pb (sp_it (sp_up g (39 + 5 * k) 0) n))))), (0, .inr (.inr (0, 0, 0))), (1, .inl (nI n))], [], h3)) (P := True) rfl trivial ?_
      refine jt_pick (L' := [(0, .inr (.inr (0, 0, 0))), (1, .inl (nI n)), (2, .inl (nI (sp_cnt (sp_pb (sp_it (sp_up g (39 + 5 * k) 0) n))))), (3, .inl (nI k)), (4, .inl (nI (k + 1)))]) [4, 5, 2, 1, 0] rfl ?_
      have e : sp_shv g n (k + 1) = (some k, sp_sv g n k) := if_pos (by first | assumption | omega)
      have q := nx (by omega) h3 Zh3 Fh3
      rw [e] at q
      exact q)
set_option maxHeartbeats 4000000 in
set_option maxRecDepth 20000 in
theorem cb_shave_l {h : jm_M} {g : Nat → Nat} (W : jw g) {n : Nat} (hnn : n ≤ 99) : ∀ k, k ≤ g 0 → ∀ hm : jm_M, (jg_rel hm 0 g) → (jg_fr 1 h hm) → jt_T 205 (34, [(0, .inr (.inr (4, 0, 0))), (1, .inl (nI n)), (2, .inl (nI ((sp_shv g n k).2))), (3, .inl (jo (sp_shv g n k).1)), (4, .inl (nI k))], [], hm) (fun u h' => u = some (.inl (jo (sp_shv g n (g 0)).1)) ∧ jg_fr 1 h h') := jx_up (P := fun k => ∀ hm : jm_M, (jg_rel hm 0 g) → (jg_fr 1 h hm) → jt_T 205 (34, [(0, .inr (.inr (4, 0, 0))), (1, .inl (nI n)), (2, .inl (nI ((sp_shv g n k).2))), (3, .inl (jo (sp_shv g n k).1)), (4, .inl (nI k))], [], hm) (fun u h' => u = some (.inl (jo (sp_shv g n (g 0)).1)) ∧ jg_fr 1 h h')) (fun k hk nx hm Zm Fm => by
  have bn := jw_n W
  have bm := jw_m W
  have bt := jw_t W
  have bz := sp_shv_lt W n k (by omega)
  refine jt_go jm_m205 19 5 (f' := (42, [(0, .inr (.inr (4, 0, 0))), (1, .inl (nI n)), (2, .inl (nI ((sp_shv g n k).2))), (3, .inl (jo (sp_shv g n k).1)), (4, .inl (nI k))], [.inl (hm (5, 0, 0) (nI 0).toNatClampNeg), .inl (nI k)], hm)) (P := vp_in (nI 0) 78 ∧ True) rfl ⟨(vp_in_nI (by omega) (by decide)), trivial⟩ ?_
  refine jt_ti (show (hm (5, 0, 0) (nI 0).toNatClampNeg) = nI (g 0) from jg_get Zm (k := 0) (nI_clamp (by omega)) (by omega)) ?_
  have bq1 := jw_n W
  refine jt_nicge jm_m205 24 (a := k) (b := g 0) (by omega) (by omega) (tgt := 113) (nxt := 45) rfl rfl rfl (fun c42 => ?_) (fun c42 => ?_)
  · refine jt_go jm_m205 57 1 (f' := (114, [(0, .inr (.inr (4, 0, 0))), (1, .inl (nI n)), (2, .inl (nI ((sp_shv g n k).2))), (3, .inl (jo (sp_shv g n k).1)), (4, .inl (nI k))], [.inl (jo (sp_shv g n k).1)], hm)) (P := True) rfl trivial ?_
    refine jt_iret jm_m205 58 rfl ?_
    have e : k = g 0 := by omega
    subst e
    exact ⟨rfl, Fm⟩
  · refine jt_go jm_m205 25 4 (f' := (53, [(0, .inr (.inr (4, 0, 0))), (1, .inl (nI n)), (2, .inl (nI ((sp_shv g n k).2))), (3, .inl (jo (sp_shv g n k).1)), (4, .inl (nI k))], [.inr (.inr (5, 1, 0)), .inr (.inr (5, 0, 0))], hm)) (P := True) rfl trivial ?_
    refine jt_call jm_m205 29 (mi' := 146) (as := [.inr (.inr (5, 0, 0)), .inr (.inr (5, 1, 0))]) (rest := []) (nxt := 56) rfl rfl jm_m146 rfl rfl (tb_copies Zm (by decide)) ?_
    rintro u h1 ⟨rfl, Rh1, Fh1⟩
    show jt_T 205 (56, [(0, .inr (.inr (4, 0, 0))), (1, .inl (nI n)), (2, .inl (nI ((sp_shv g n k).2))), (3, .inl (jo (sp_shv g n k).1)), (4, .inl (nI k))], [], h1) _
    have Rh1 : jg_rel h1 1 g := Rh1
    have Wh1 : jw (g) := W
    have Zh1 := jg_mov0 Zm Fh1
    have Fh1 := jg_fr_tr Fm Fh1
    refine jt_go jm_m205 30 4 (f' := (63, [(0, .inr (.inr (4, 0, 0))), (1, .inl (nI n)), (2, .inl (nI ((sp_shv g n k).2))), (3, .inl (jo (sp_shv g n k).1)), (4, .inl (nI k))], [.inl (nI 3), .inl (nI k), .inr (.inr (5, 1, 0))], h1)) (P := True) rfl trivial ?_
    refine jt_callp (w := .inl (nI (39 + 5 * k))) jm_m205 34 (mi' := 147) (as := [.inl (nI k), .inl (nI 3)]) (rest := [.inr (.inr (5, 1, 0))]) (nxt := 66) rfl rfl jm_m147 rfl rfl (tb_ofC (k := 39 + 5 * k) (by omega)) ?_
    refine jt_goM jm_m205 35 2 (pc' := 68) (L' := [(0, .inr (.inr (4, 0, 0))), (1, .inl (nI n)), (2, .inl (nI ((sp_shv g n k).2))), (3, .inl (jo (sp_shv g n k).1)), (4, .inl (nI k))]) (st' := []) (m' := jm_set h1 (5, 1, 0) (upd (h1 (5, 1, 0)) (nI (39 + 5 * k)).toNatClampNeg (nI 0))) (P := vp_in (nI (39 + 5 * k)) 78 ∧ True) rfl ⟨(vp_in_nI (by omega) (by decide)), trivial⟩ (fun h2 eh2 => ?_)
    have Rh2 : jg_rel h2 1 (sp_up g (39 + 5 * k) 0) := by rw [eh2]; exact jg_set Rh1 (k := 39 + 5 * k) (w := 0) (nI_clamp (by omega)) rfl
    have Wh2 : jw (sp_up g (39 + 5 * k) 0) := jw_up_hair W (by omega) (by omega)
    have Fh2 : jg_fr 1 h h2 := by rw [eh2]; exact jg_fr_set Fh1
    have Gh2 : jg_fr 1 h1 h2 := by rw [eh2]; exact jg_fr_set jg_fr_rf
    have Zh2 := jg_mov0 Zh1 Gh2
    refine jt_go jm_m205 37 3 (f' := (73, [(0, .inr (.inr (4, 0, 0))), (1, .inl (nI n)), (2, .inl (nI ((sp_shv g n k).2))), (3, .inl (jo (sp_shv g n k).1)), (4, .inl (nI k))], [.inl (nI n), .inr (.inr (5, 1, 0))], h2)) (P := True) rfl trivial ?_
    refine jt_call jm_m205 40 (mi' := 164) (as := [.inr (.inr (5, 1, 0)), .inl (nI n)]) (rest := []) (nxt := 76) rfl rfl jm_m164 rfl rfl (tb_goOn Rh2 Wh2 (by omega)) ?_
    rintro u h3 ⟨rfl, Rh3, Fh3⟩
    show jt_T 205 (76, [(0, .inr (.inr (4, 0, 0))), (1, .inl (nI n)), (2, .inl (nI ((sp_shv g n k).2))), (3, .inl (jo (sp_shv g n k).1)), (4, .inl (nI k))], [], h3) _
    have Rh3 : jg_rel h3 1 (sp_it (sp_up g (39 + 5 * k) 0) n) := Rh3
    have Wh3 : jw (sp_it (sp_up g (39 + 5 * k) 0) n) := (jw_it Wh2 _).1
    have Zh3 := jg_mov0 Zh2 Fh3
    have Fh3 := jg_fr_tr Fh2 Fh3
    refine jt_go jm_m205 41 2 (f' := (80, [(0, .inr (.inr (4, 0, 0))), (1, .inl (nI n)), (2, .inl (nI ((sp_shv g n k).2))), (3, .inl (jo (sp_shv g n k).1)), (4, .inl (nI k))], [.inr (.inr (5, 1, 0))], h3)) (P := True) rfl trivial ?_
    refine jt_callp (w := .inl (nI (sp_pb (sp_it (sp_up g (39 + 5 * k) 0) n)))) jm_m205 43 (mi' := 165) (as := [.inr (.inr (5, 1, 0))]) (rest := []) (nxt := 83) rfl rfl jm_m165 rfl rfl (tb_passed Rh3 Wh3) ?_
    have bq2 := jw_pb Wh3
    refine jt_callp (w := .inl (nI (sp_cnt (sp_pb (sp_it (sp_up g (39 + 5 * k) 0) n))))) jm_m205 44 (mi' := 153) (as := [.inl (nI (sp_pb (sp_it (sp_up g (39 + 5 * k) 0) n)))]) (rest := []) (nxt := 86) rfl rfl jm_m153 rfl rfl (tb_bits (by omega)) ?_
    have bq3 := sp_cnt_le (sp_pb (sp_it (sp_up g (39 + 5 * k) 0) n)) (by omega)
    refine jt_go jm_m205 45 1 (f' := (87, [(0, .inr (.inr (4, 0, 0))), (1, .inl (nI n)), (2, .inl (nI ((sp_shv g n k).2))), (3, .inl (jo (sp_shv g n k).1)), (4, .inl (nI k))], [.inl (nI ((sp_shv g n k).2)), .inl (nI (sp_cnt (sp_pb (sp_it (sp_up g (39 + 5 * k) 0) n))))], h3)) (P := True) rfl trivial ?_
    refine jt_nicgt jm_m205 46 (a := sp_cnt (sp_pb (sp_it (sp_up g (39 + 5 * k) 0) n))) (b := (sp_shv g n k).2) (by omega) (by omega) (tgt := 93) (nxt := 90) rfl rfl rfl (fun c87 => ?_) (fun c87 => ?_)
    · have c88 : (sp_shv g n k).2 < sp_sv g n k := c87
      refine jt_go jm_m205 48 4 (f' := (100, [(3, .inl (nI k)), (0, .inr (.inr (4, 0, 0))), (1, .inl (nI n)), (2, .inl (nI ((sp_shv g n k).2))), (4, .inl (nI k))], [.inr (.inr (5, 1, 0))], h3)) (P := True) rfl trivial ?_
      refine jt_callp (w := .inl (nI (sp_pb (sp_it (sp_up g (39 + 5 * k) 0) n)))) jm_m205 52 (mi' := 165) (as := [.inr (.inr (5, 1, 0))]) (rest := []) (nxt := 103) rfl rfl jm_m165 rfl rfl (tb_passed Rh3 Wh3) ?_
      have bq4 := jw_pb Wh3
      refine jt_callp (w := .inl (nI (sp_cnt (sp_pb (sp_it (sp_up g (39 + 5 * k) 0) n))))) jm_m205 53 (mi' := 153) (as := [.inl (nI (sp_pb (sp_it (sp_up g (39 + 5 * k) 0) n)))]) (rest := []) (nxt := 106) rfl rfl jm_m153 rfl rfl (tb_bits (by omega)) ?_
      have bq5 := sp_cnt_le (sp_pb (sp_it (sp_up g (39 + 5 * k) 0) n)) (by omega)
      refine jt_go jm_m205 54 1 (f' := (107, [(2, .inl (nI (sp_cnt (sp_pb (sp_it (sp_up g (39 + 5 * k) 0) n))))), (3, .inl (nI k)), (0, .inr (.inr (4, 0, 0))), (1, .inl (nI n)), (4, .inl (nI k))], [], h3)) (P := True) rfl trivial ?_
      refine jt_inc jm_m205 55 (c := k) (L' := [(4, .inl (nI (k + 1))), (2, .inl (nI (sp_cnt (sp_pb (sp_it (sp_up g (39 + 5 * k) 0) n))))), (3, .inl (nI k)), (0, .inr (.inr (4, 0, 0))), (1, .inl (nI n))]) rfl rfl rfl rfl ?_
      refine jt_go jm_m205 56 1 (f' := (34, [(4, .inl (nI (k + 1))), (2, .inl (nI (sp_cnt (sp_pb (sp_it (sp_up g (39 + 5 * k) 0) n))))), (3, .inl (nI k)), (0, .inr (.inr (4, 0, 0))), (1, .inl (nI n))], [], h3)) (P := True) rfl trivial ?_
      refine jt_pick (L' := [(0, .inr (.inr (4, 0, 0))), (1, .inl (nI n)), (2, .inl (nI (sp_cnt (sp_pb (sp_it (sp_up g (39 + 5 * k) 0) n))))), (3, .inl (nI k)), (4, .inl (nI (k + 1)))]) [3, 4, 1, 2, 0] rfl ?_
      have e : sp_shv g n (k + 1) = (some k, sp_sv g n k) := if_pos (by first | assumption | omega)
      have q := nx (by omega) h3 Zh3 Fh3
      rw [e] at q
      exact q
    · have c88 : ¬ (sp_shv g n k).2 < sp_sv g n k := Nat.not_lt.mpr c87
      refine jt_go jm_m205 47 1 (f' := (107, [(0, .inr (.inr (4, 0, 0))), (1, .inl (nI n)), (2, .inl (nI ((sp_shv g n k).2))), (3, .inl (jo (sp_shv g n k).1)), (4, .inl (nI k))], [], h3)) (P := True) rfl trivial ?_
      refine jt_inc jm_m205 55 (c := k) (L' := [(4, .inl (nI (k + 1))), (0, .inr (.inr (4, 0, 0))), (1, .inl (nI n)), (2, .inl (nI ((sp_shv g n k).2))), (3, .inl (jo (sp_shv g n k).1))]) rfl rfl rfl rfl ?_
      refine jt_go jm_m205 56 1 (f' := (34, [(4, .inl (nI (k + 1))), (0, .inr (.inr (4, 0, 0))), (1, .inl (nI n)), (2, .inl (nI ((sp_shv g n k).2))), (3, .inl (jo (sp_shv g n k).1))], [], h3)) (P := True) rfl trivial ?_
      refine jt_pick (L' := [(0, .inr (.inr (4, 0, 0))), (1, .inl (nI n)), (2, .inl (nI ((sp_shv g n k).2))), (3, .inl (jo (sp_shv g n k).1)), (4, .inl (nI (k + 1)))]) [1, 2, 3, 4, 0] rfl ?_
      have e : sp_shv g n (k + 1) = sp_shv g n k := if_neg (by first | assumption | omega)
      have q := nx (by omega) h3 Zh3 Fh3
      rw [e] at q
      exact q)
def zb_shave (g : Nat → Nat) (n : Nat) : Int32 := jo (sp_shv g n (g 0)).1
def za_shave (g : Nat → Nat) (x : Int32) : Int32 := if nI 0 ≤ x ∧ x ≤ nI 99 then zb_shave g x.toNatClampNeg else (-1)
set_option maxHeartbeats 4000000 in
set_option maxRecDepth 20000 in
theorem ca_shave {h : jm_M} {g : Nat → Nat} (R : jf_rel h 0 g) (W : jw g) {x : Int32} : jt_T 101 (0, [(0, .inr (.inr (0, 0, 0))), (1, .inl (x))], [], h) (fun u h' => u = some (.inl (za_shave g x)) ∧ jf_fr 1 h h') := by
  have bn := jw_n W
  have bm := jw_m W
  have bt := jw_t W
  refine jt_go jm_m101 0 1 (f' := (1, [(0, .inr (.inr (0, 0, 0))), (1, .inl (x))], [.inl (x)], h)) (P := True) rfl trivial ?_
  refine jt_callp (w := .inl (jm_b (nI 0 ≤ x ∧ x ≤ nI 99))) jm_m101 1 (mi' := 141) (as := [.inl (x)]) (rest := []) (nxt := 4) rfl rfl jm_m141 rfl rfl (ta_ahead) ?_
  refine jt_ifbne jm_m101 2 (tgt := 9) (nxt := 7) rfl rfl rfl (fun c4 => ?_) (fun c4 => ?_)
  · obtain ⟨n, hbn, rfl⟩ := jx_win (by decide) c4
    refine jt_go jm_m101 5 2 (f' := (11, [(0, .inr (.inr (0, 0, 0))), (1, .inl (nI n))], [.inl (nI n), .inr (.inr (0, 0, 0))], h)) (P := True) rfl trivial ?_
    refine jt_call jm_m101 7 (mi' := 132) (as := [.inr (.inr (0, 0, 0)), .inl (nI n)]) (rest := []) (nxt := 14) rfl rfl jm_m132 rfl rfl (ta_look R W (by omega)) ?_
    rintro u h1 ⟨rfl, Rh1, Fh1⟩
    show jt_T 101 (14, [(0, .inr (.inr (0, 0, 0))), (1, .inl (nI n))], [], h1) _
    have Rh1 : jf_rel h1 1 (sp_it g n) := Rh1
    have Wh1 : jw (sp_it g n) := (jw_it W _).1
    have Zh1 := jf_mov0 R Fh1
    refine jt_go jm_m101 8 3 (f' := (21, [(0, .inr (.inr (0, 0, 0))), (1, .inl (nI n))], [.inl (h1 (2, 1, 0) 13)], h1)) (P := True) rfl trivial ?_
    refine jt_ti (show (h1 (2, 1, 0) 13) = nI (sp_pb (sp_it g n)) from jf_pass Rh1) ?_
    have bq1 := jw_pb Wh1
    refine jt_callp (w := .inl (nI (sp_cnt (sp_pb (sp_it g n))))) jm_m101 11 (mi' := 238) (as := [.inl (nI (sp_pb (sp_it g n)))]) (rest := []) (nxt := 24) rfl rfl jm_m238 rfl rfl (tj_bits (by omega)) ?_
    have bq2 := sp_cnt_le (sp_pb (sp_it g n)) (by omega)
    refine jt_go jm_m101 12 5 (f' := (31, [(4, .inl (nI 0)), (3, .inl ((-4))), (2, .inl (nI (sp_cnt (sp_pb (sp_it g n))))), (0, .inr (.inr (0, 0, 0))), (1, .inl (nI n))], [], h1)) (P := True) rfl trivial ?_
    refine jt_pick (L' := [(0, .inr (.inr (0, 0, 0))), (1, .inl (nI n)), (2, .inl (nI (sp_cnt (sp_pb (sp_it g n))))), (3, .inl ((-4))), (4, .inl (nI 0))]) [3, 4, 2, 1, 0] rfl ?_
    refine jt_mono (ca_shave_l (h := h1) W hbn 0 (Nat.zero_le _) _ Zh1 jf_fr_rf) (fun u h2 zz => ⟨zz.1.trans (jt_li ?_), jf_fr_tr Fh1 zz.2⟩)
    unfold za_shave
    refine Eq.trans ?_ (if_pos c4).symm
    rw [nI_clamp (n := n) (by omega)]
    unfold zb_shave
    first | done | rfl
  · refine jt_go jm_m101 3 1 (f' := (8, [(0, .inr (.inr (0, 0, 0))), (1, .inl (x))], [.inl ((-1))], h)) (P := True) rfl trivial ?_
    refine jt_iret jm_m101 4 rfl ?_
    exact ⟨jt_li (if_neg (fun z => c4 z)).symm, jf_fr_rf⟩
set_option maxHeartbeats 4000000 in
set_option maxRecDepth 20000 in
theorem cb_shave {h : jm_M} {g : Nat → Nat} (R : jg_rel h 0 g) (W : jw g) {x : Int32} : jt_T 205 (0, [(0, .inr (.inr (4, 0, 0))), (1, .inl (x))], [], h) (fun u h' => u = some (.inl (za_shave g x)) ∧ jg_fr 1 h h') := by
  have bn := jw_n W
  have bm := jw_m W
  have bt := jw_t W
  refine jt_go jm_m205 0 3 (f' := (4, [(0, .inr (.inr (4, 0, 0))), (1, .inl (x))], [.inl (nI 99), .inl (nI 0), .inl (x)], h)) (P := True) rfl trivial ?_
  refine jt_callp (w := .inl (jm_b (nI 0 ≤ x ∧ x ≤ nI 99))) jm_m205 3 (mi' := 143) (as := [.inl (x), .inl (nI 0), .inl (nI 99)]) (rest := []) (nxt := 7) rfl rfl jm_m143 rfl rfl (tb_isIn) ?_
  refine jt_ifbne jm_m205 4 (tgt := 12) (nxt := 10) rfl rfl rfl (fun c7 => ?_) (fun c7 => ?_)
  · obtain ⟨n, hbn, rfl⟩ := jx_win (by decide) c7
    refine jt_go jm_m205 7 2 (f' := (14, [(0, .inr (.inr (4, 0, 0))), (1, .inl (nI n))], [.inl (nI n), .inr (.inr (4, 0, 0))], h)) (P := True) rfl trivial ?_
    refine jt_call jm_m205 9 (mi' := 185) (as := [.inr (.inr (4, 0, 0)), .inl (nI n)]) (rest := []) (nxt := 17) rfl rfl jm_m185 rfl rfl (tb_takes R W (by omega)) ?_
    rintro u h1 ⟨rfl, Rh1, Fh1⟩
    show jt_T 205 (17, [(0, .inr (.inr (4, 0, 0))), (1, .inl (nI n))], [], h1) _
    have Rh1 : jg_rel h1 1 (sp_it g n) := Rh1
    have Wh1 : jw (sp_it g n) := (jw_it W _).1
    have Zh1 := jg_mov0 R Fh1
    refine jt_go jm_m205 10 2 (f' := (21, [(0, .inr (.inr (4, 0, 0))), (1, .inl (nI n))], [.inr (.inr (5, 1, 0))], h1)) (P := True) rfl trivial ?_
    refine jt_callp (w := .inl (nI (sp_pb (sp_it g n)))) jm_m205 12 (mi' := 165) (as := [.inr (.inr (5, 1, 0))]) (rest := []) (nxt := 24) rfl rfl jm_m165 rfl rfl (tb_passed Rh1 Wh1) ?_
    have bq1 := jw_pb Wh1
    refine jt_callp (w := .inl (nI (sp_cnt (sp_pb (sp_it g n))))) jm_m205 13 (mi' := 153) (as := [.inl (nI (sp_pb (sp_it g n)))]) (rest := []) (nxt := 27) rfl rfl jm_m153 rfl rfl (tb_bits (by omega)) ?_
    have bq2 := sp_cnt_le (sp_pb (sp_it g n)) (by omega)
    refine jt_go jm_m205 14 5 (f' := (34, [(4, .inl (nI 0)), (3, .inl ((-4))), (2, .inl (nI (sp_cnt (sp_pb (sp_it g n))))), (0, .inr (.inr (4, 0, 0))), (1, .inl (nI n))], [], h1)) (P := True) rfl trivial ?_
    refine jt_pick (L' := [(0, .inr (.inr (4, 0, 0))), (1, .inl (nI n)), (2, .inl (nI (sp_cnt (sp_pb (sp_it g n))))), (3, .inl ((-4))), (4, .inl (nI 0))]) [3, 4, 2, 1, 0] rfl ?_
    refine jt_mono (cb_shave_l (h := h1) W hbn 0 (Nat.zero_le _) _ Zh1 jg_fr_rf) (fun u h2 zz => ⟨zz.1.trans (jt_li ?_), jg_fr_tr Fh1 zz.2⟩)
    unfold za_shave
    refine Eq.trans ?_ (if_pos c7).symm
    rw [nI_clamp (n := n) (by omega)]
    unfold zb_shave
    first | done | rfl
  · refine jt_go jm_m205 5 1 (f' := (11, [(0, .inr (.inr (4, 0, 0))), (1, .inl (x))], [.inl ((-1))], h)) (P := True) rfl trivial ?_
    refine jt_iret jm_m205 6 rfl ?_
    exact ⟨jt_li (if_neg (fun z => c7 z)).symm, jg_fr_rf⟩
set_option maxHeartbeats 4000000 in
set_option maxRecDepth 20000 in
theorem ca_bribe_l {h : jm_M} {g : Nat → Nat} (W : jw g) {c p n : Nat} (hc : c < g 0) (hp : p < 16) (hnn : n ≤ 99) : ∀ k, k ≤ 9 → ∀ hm : jm_M, (jf_rel hm 0 g) → (jf_fr 1 h hm) → jt_T 102 (46, [(0, .inr (.inr (0, 0, 0))), (1, .inl (nI c)), (2, .inl (nI p)), (3, .inl (nI n)), (4, .inl (nI (sp_it g n (38 + 5 * c)))), (5, .inl (nI (k + 1)))], [], hm) (fun u h' => u = some (.inl (jo ((sp_fi (fun k => decide (¬ sp_it (sp_af g p (k + 1)) n (38 + 5 * c) = sp_it g n (38 + 5 * c))) k (9 - k)).map (fun z => z + 1)))) ∧ jf_fr 1 h h') := jx_up (P := fun k => ∀ hm : jm_M, (jf_rel hm 0 g) → (jf_fr 1 h hm) → jt_T 102 (46, [(0, .inr (.inr (0, 0, 0))), (1, .inl (nI c)), (2, .inl (nI p)), (3, .inl (nI n)), (4, .inl (nI (sp_it g n (38 + 5 * c)))), (5, .inl (nI (k + 1)))], [], hm) (fun u h' => u = some (.inl (jo ((sp_fi (fun k => decide (¬ sp_it (sp_af g p (k + 1)) n (38 + 5 * c) = sp_it g n (38 + 5 * c))) k (9 - k)).map (fun z => z + 1)))) ∧ jf_fr 1 h h')) (fun k hk nx hm Zm Fm => by
  have bn := jw_n W
  have bm := jw_m W
  have bt := jw_t W
  have bo := jw_at (jw_it W n).1 (c := c) (by omega)
  refine jt_go jm_m102 24 2 (f' := (50, [(0, .inr (.inr (0, 0, 0))), (1, .inl (nI c)), (2, .inl (nI p)), (3, .inl (nI n)), (4, .inl (nI (sp_it g n (38 + 5 * c)))), (5, .inl (nI (k + 1)))], [.inl (nI 9), .inl (nI (k + 1))], hm)) (P := True) rfl trivial ?_
  refine jt_nicgt jm_m102 26 (a := k + 1) (b := 9) (by omega) (by omega) (tgt := 105) (nxt := 53) rfl rfl rfl (fun c50 => ?_) (fun c50 => ?_)
  · refine jt_go jm_m102 52 1 (f' := (107, [(0, .inr (.inr (0, 0, 0))), (1, .inl (nI c)), (2, .inl (nI p)), (3, .inl (nI n)), (4, .inl (nI (sp_it g n (38 + 5 * c)))), (5, .inl (nI (k + 1)))], [.inl ((-4))], hm)) (P := True) rfl trivial ?_
    refine jt_iret jm_m102 53 rfl ?_
    have e : k = 9 := by omega
    subst e
    exact ⟨rfl, Fm⟩
  · refine jt_go jm_m102 27 4 (f' := (61, [(0, .inr (.inr (0, 0, 0))), (1, .inl (nI c)), (2, .inl (nI p)), (3, .inl (nI n)), (4, .inl (nI (sp_it g n (38 + 5 * c)))), (5, .inl (nI (k + 1)))], [.inr (.inr (2, 0, 0)), .inr (.inr (2, 1, 0))], hm)) (P := True) rfl trivial ?_
    refine jt_call jm_m102 31 (mi' := 6) (as := [.inr (.inr (2, 1, 0)), .inr (.inr (2, 0, 0))]) (rest := []) (nxt := 64) rfl rfl jm_m6 rfl rfl (ta_becomes Zm W (by decide)) ?_
    rintro u h1 ⟨rfl, Rh1, Fh1⟩
    show jt_T 102 (64, [(0, .inr (.inr (0, 0, 0))), (1, .inl (nI c)), (2, .inl (nI p)), (3, .inl (nI n)), (4, .inl (nI (sp_it g n (38 + 5 * c)))), (5, .inl (nI (k + 1)))], [], h1) _
    have Rh1 : jf_rel h1 1 g := Rh1
    have Wh1 : jw (g) := W
    have Zh1 := jf_mov0 Zm Fh1
    have Fh1 := jf_fr_tr Fm Fh1
    refine jt_go jm_m102 32 4 (f' := (71, [(0, .inr (.inr (0, 0, 0))), (1, .inl (nI c)), (2, .inl (nI p)), (3, .inl (nI n)), (4, .inl (nI (sp_it g n (38 + 5 * c)))), (5, .inl (nI (k + 1)))], [.inl (nI (k + 1)), .inl (nI p), .inr (.inr (2, 1, 0))], h1)) (P := True) rfl trivial ?_
    refine jt_call jm_m102 36 (mi' := 16) (as := [.inr (.inr (2, 1, 0)), .inl (nI p), .inl (nI (k + 1))]) (rest := []) (nxt := 74) rfl rfl jm_m16 rfl rfl (ta_addFish Rh1 Wh1 (by omega) (by omega)) ?_
    rintro u h2 ⟨rfl, Rh2, Fh2⟩
    show jt_T 102 (74, [(0, .inr (.inr (0, 0, 0))), (1, .inl (nI c)), (2, .inl (nI p)), (3, .inl (nI n)), (4, .inl (nI (sp_it g n (38 + 5 * c)))), (5, .inl (nI (k + 1)))], [], h2) _
    have Rh2 : jf_rel h2 1 (sp_af g p (k + 1)) := Rh2
    have Wh2 : jw (sp_af g p (k + 1)) := jw_af Wh1 (by omega)
    have Zh2 := jf_mov0 Zh1 Fh2
    have Fh2 := jf_fr_tr Fh1 Fh2
    refine jt_go jm_m102 37 3 (f' := (79, [(0, .inr (.inr (0, 0, 0))), (1, .inl (nI c)), (2, .inl (nI p)), (3, .inl (nI n)), (4, .inl (nI (sp_it g n (38 + 5 * c)))), (5, .inl (nI (k + 1)))], [.inl (nI n), .inr (.inr (2, 1, 0))], h2)) (P := True) rfl trivial ?_
    refine jt_call jm_m102 40 (mi' := 17) (as := [.inr (.inr (2, 1, 0)), .inl (nI n)]) (rest := []) (nxt := 82) rfl rfl jm_m17 rfl rfl (ta_goOn Rh2 Wh2 (by omega)) ?_
    rintro u h3 ⟨rfl, Rh3, Fh3⟩
    show jt_T 102 (82, [(0, .inr (.inr (0, 0, 0))), (1, .inl (nI c)), (2, .inl (nI p)), (3, .inl (nI n)), (4, .inl (nI (sp_it g n (38 + 5 * c)))), (5, .inl (nI (k + 1)))], [], h3) _
    have Rh3 : jf_rel h3 1 (sp_it (sp_af g p (k + 1)) n) := Rh3
    have Wh3 : jw (sp_it (sp_af g p (k + 1)) n) := (jw_it Wh2 _).1
    have Zh3 := jf_mov0 Zh2 Fh3
    have Fh3 := jf_fr_tr Fh2 Fh3
    refine jt_go jm_m102 41 5 (f' := (91, [(0, .inr (.inr (0, 0, 0))), (1, .inl (nI c)), (2, .inl (nI p)), (3, .inl (nI n)), (4, .inl (nI (sp_it g n (38 + 5 * c)))), (5, .inl (nI (k + 1)))], [.inl (h3 (2, 1, 3) (nI c).toNatClampNeg)], h3)) (P := vp_in (nI c) 6 ∧ True) rfl ⟨(vp_in_nI (by omega) (by decide)), trivial⟩ ?_
    refine jt_ti (show (h3 (2, 1, 3) (nI c).toNatClampNeg) = nI ((sp_it (sp_af g p (k + 1)) n) (38 + 5 * c)) from jf_at Rh3 (c := c) (nI_clamp (by omega)) (by omega)) ?_
    have bq1 := jw_at Wh3 (c := c) (by omega)
    refine jt_go jm_m102 46 1 (f' := (93, [(0, .inr (.inr (0, 0, 0))), (1, .inl (nI c)), (2, .inl (nI p)), (3, .inl (nI n)), (4, .inl (nI (sp_it g n (38 + 5 * c)))), (5, .inl (nI (k + 1)))], [.inl (nI (sp_it g n (38 + 5 * c))), .inl (nI ((sp_it (sp_af g p (k + 1)) n) (38 + 5 * c)))], h3)) (P := True) rfl trivial ?_
    refine jt_niceq jm_m102 47 (a := (sp_it (sp_af g p (k + 1)) n) (38 + 5 * c)) (b := sp_it g n (38 + 5 * c)) (by omega) (by omega) (tgt := 99) (nxt := 96) rfl rfl rfl (fun c93 => ?_) (fun c93 => ?_)
    · refine jt_inc jm_m102 50 (c := k + 1) (L' := [(5, .inl (nI (k + 1 + 1))), (0, .inr (.inr (0, 0, 0))), (1, .inl (nI c)), (2, .inl (nI p)), (3, .inl (nI n)), (4, .inl (nI (sp_it g n (38 + 5 * c))))]) rfl rfl rfl rfl ?_
      refine jt_go jm_m102 51 1 (f' := (46, [(5, .inl (nI (k + 1 + 1))), (0, .inr (.inr (0, 0, 0))), (1, .inl (nI c)), (2, .inl (nI p)), (3, .inl (nI n)), (4, .inl (nI (sp_it g n (38 + 5 * c))))], [], h3)) (P := True) rfl trivial ?_
      refine jt_pick (L' := [(0, .inr (.inr (0, 0, 0))), (1, .inl (nI c)), (2, .inl (nI p)), (3, .inl (nI n)), (4, .inl (nI (sp_it g n (38 + 5 * c)))), (5, .inl (nI (k + 1 + 1)))]) [1, 2, 3, 4, 5, 0] rfl ?_
      rw [sp_fi_neg (by omega) (fun z => (of_decide_eq_true z) c93)]
      exact nx (by omega) h3 Zh3 Fh3
    · refine jt_go jm_m102 48 1 (f' := (98, [(0, .inr (.inr (0, 0, 0))), (1, .inl (nI c)), (2, .inl (nI p)), (3, .inl (nI n)), (4, .inl (nI (sp_it g n (38 + 5 * c)))), (5, .inl (nI (k + 1)))], [.inl (nI (k + 1))], h3)) (P := True) rfl trivial ?_
      refine jt_iret jm_m102 49 rfl ?_
      rw [sp_fi_pos (by omega) (decide_eq_true c93)]
      exact ⟨rfl, Fh3⟩)
set_option maxHeartbeats 4000000 in
set_option maxRecDepth 20000 in
theorem cb_bribe_l {h : jm_M} {g : Nat → Nat} (W : jw g) {c p n : Nat} (hc : c < g 0) (hp : p < 16) (hnn : n ≤ 99) : ∀ k, k ≤ 9 → ∀ hm : jm_M, (jg_rel hm 0 g) → (jg_fr 1 h hm) → jt_T 206 (47, [(0, .inr (.inr (4, 0, 0))), (1, .inl (nI c)), (2, .inl (nI p)), (3, .inl (nI n)), (4, .inl (nI (sp_it g n (38 + 5 * c)))), (5, .inl (nI (k + 1)))], [], hm) (fun u h' => u = some (.inl (jo ((sp_fi (fun k => decide (¬ sp_it (sp_af g p (k + 1)) n (38 + 5 * c) = sp_it g n (38 + 5 * c))) k (9 - k)).map (fun z => z + 1)))) ∧ jg_fr 1 h h') := jx_up (P := fun k => ∀ hm : jm_M, (jg_rel hm 0 g) → (jg_fr 1 h hm) → jt_T 206 (47, [(0, .inr (.inr (4, 0, 0))), (1, .inl (nI c)), (2, .inl (nI p)), (3, .inl (nI n)), (4, .inl (nI (sp_it g n (38 + 5 * c)))), (5, .inl (nI (k + 1)))], [], hm) (fun u h' => u = some (.inl (jo ((sp_fi (fun k => decide (¬ sp_it (sp_af g p (k + 1)) n (38 + 5 * c) = sp_it g n (38 + 5 * c))) k (9 - k)).map (fun z => z + 1)))) ∧ jg_fr 1 h h')) (fun k hk nx hm Zm Fm => by
  have bn := jw_n W
  have bm := jw_m W
  have bt := jw_t W
  have bo := jw_at (jw_it W n).1 (c := c) (by omega)
  refine jt_go jm_m206 26 2 (f' := (51, [(0, .inr (.inr (4, 0, 0))), (1, .inl (nI c)), (2, .inl (nI p)), (3, .inl (nI n)), (4, .inl (nI (sp_it g n (38 + 5 * c)))), (5, .inl (nI (k + 1)))], [.inl (nI 10), .inl (nI (k + 1))], hm)) (P := True) rfl trivial ?_
  refine jt_nicge jm_m206 28 (a := k + 1) (b := 10) (by omega) (by omega) (tgt := 107) (nxt := 54) rfl rfl rfl (fun c51 => ?_) (fun c51 => ?_)
  · refine jt_go jm_m206 55 1 (f' := (109, [(0, .inr (.inr (4, 0, 0))), (1, .inl (nI c)), (2, .inl (nI p)), (3, .inl (nI n)), (4, .inl (nI (sp_it g n (38 + 5 * c)))), (5, .inl (nI (k + 1)))], [.inl ((-4))], hm)) (P := True) rfl trivial ?_
    refine jt_iret jm_m206 56 rfl ?_
    have e : k = 9 := by omega
    subst e
    exact ⟨rfl, Fm⟩
  · refine jt_go jm_m206 29 4 (f' := (62, [(0, .inr (.inr (4, 0, 0))), (1, .inl (nI c)), (2, .inl (nI p)), (3, .inl (nI n)), (4, .inl (nI (sp_it g n (38 + 5 * c)))), (5, .inl (nI (k + 1)))], [.inr (.inr (5, 1, 0)), .inr (.inr (5, 0, 0))], hm)) (P := True) rfl trivial ?_
    refine jt_call jm_m206 33 (mi' := 146) (as := [.inr (.inr (5, 0, 0)), .inr (.inr (5, 1, 0))]) (rest := []) (nxt := 65) rfl rfl jm_m146 rfl rfl (tb_copies Zm (by decide)) ?_
    rintro u h1 ⟨rfl, Rh1, Fh1⟩
    show jt_T 206 (65, [(0, .inr (.inr (4, 0, 0))), (1, .inl (nI c)), (2, .inl (nI p)), (3, .inl (nI n)), (4, .inl (nI (sp_it g n (38 + 5 * c)))), (5, .inl (nI (k + 1)))], [], h1) _
    have Rh1 : jg_rel h1 1 g := Rh1
    have Wh1 : jw (g) := W
    have Zh1 := jg_mov0 Zm Fh1
    have Fh1 := jg_fr_tr Fm Fh1
    refine jt_go jm_m206 34 4 (f' := (72, [(0, .inr (.inr (4, 0, 0))), (1, .inl (nI c)), (2, .inl (nI p)), (3, .inl (nI n)), (4, .inl (nI (sp_it g n (38 + 5 * c)))), (5, .inl (nI (k + 1)))], [.inl (nI (k + 1)), .inl (nI p), .inr (.inr (5, 1, 0))], h1)) (P := True) rfl trivial ?_
    refine jt_call jm_m206 38 (mi' := 198) (as := [.inr (.inr (5, 1, 0)), .inl (nI p), .inl (nI (k + 1))]) (rest := []) (nxt := 75) rfl rfl jm_m198 rfl rfl (tb_addFish Rh1 Wh1 (by omega) (by omega)) ?_
    rintro u h2 ⟨rfl, Rh2, Fh2⟩
    show jt_T 206 (75, [(0, .inr (.inr (4, 0, 0))), (1, .inl (nI c)), (2, .inl (nI p)), (3, .inl (nI n)), (4, .inl (nI (sp_it g n (38 + 5 * c)))), (5, .inl (nI (k + 1)))], [], h2) _
    have Rh2 : jg_rel h2 1 (sp_af g p (k + 1)) := Rh2
    have Wh2 : jw (sp_af g p (k + 1)) := jw_af Wh1 (by omega)
    have Zh2 := jg_mov0 Zh1 Fh2
    have Fh2 := jg_fr_tr Fh1 Fh2
    refine jt_go jm_m206 39 3 (f' := (80, [(0, .inr (.inr (4, 0, 0))), (1, .inl (nI c)), (2, .inl (nI p)), (3, .inl (nI n)), (4, .inl (nI (sp_it g n (38 + 5 * c)))), (5, .inl (nI (k + 1)))], [.inl (nI n), .inr (.inr (5, 1, 0))], h2)) (P := True) rfl trivial ?_
    refine jt_call jm_m206 42 (mi' := 164) (as := [.inr (.inr (5, 1, 0)), .inl (nI n)]) (rest := []) (nxt := 83) rfl rfl jm_m164 rfl rfl (tb_goOn Rh2 Wh2 (by omega)) ?_
    rintro u h3 ⟨rfl, Rh3, Fh3⟩
    show jt_T 206 (83, [(0, .inr (.inr (4, 0, 0))), (1, .inl (nI c)), (2, .inl (nI p)), (3, .inl (nI n)), (4, .inl (nI (sp_it g n (38 + 5 * c)))), (5, .inl (nI (k + 1)))], [], h3) _
    have Rh3 : jg_rel h3 1 (sp_it (sp_af g p (k + 1)) n) := Rh3
    have Wh3 : jw (sp_it (sp_af g p (k + 1)) n) := (jw_it Wh2 _).1
    have Zh3 := jg_mov0 Zh2 Fh3
    have Fh3 := jg_fr_tr Fh2 Fh3
    refine jt_go jm_m206 43 4 (f' := (89, [(0, .inr (.inr (4, 0, 0))), (1, .inl (nI c)), (2, .inl (nI p)), (3, .inl (nI n)), (4, .inl (nI (sp_it g n (38 + 5 * c)))), (5, .inl (nI (k + 1)))], [.inl (nI 2), .inl (nI c), .inr (.inr (5, 1, 0))], h3)) (P := True) rfl trivial ?_
    refine jt_callp (w := .inl (nI (38 + 5 * c))) jm_m206 47 (mi' := 147) (as := [.inl (nI c), .inl (nI 2)]) (rest := [.inr (.inr (5, 1, 0))]) (nxt := 92) rfl rfl jm_m147 rfl rfl (tb_ofC (k := 38 + 5 * c) (by omega)) ?_
    refine jt_go jm_m206 48 1 (f' := (93, [(0, .inr (.inr (4, 0, 0))), (1, .inl (nI c)), (2, .inl (nI p)), (3, .inl (nI n)), (4, .inl (nI (sp_it g n (38 + 5 * c)))), (5, .inl (nI (k + 1)))], [.inl (h3 (5, 1, 0) (nI (38 + 5 * c)).toNatClampNeg)], h3)) (P := vp_in (nI (38 + 5 * c)) 78 ∧ True) rfl ⟨(vp_in_nI (by omega) (by decide)), trivial⟩ ?_
    refine jt_ti (show (h3 (5, 1, 0) (nI (38 + 5 * c)).toNatClampNeg) = nI ((sp_it (sp_af g p (k + 1)) n) (38 + 5 * c)) from jg_get Rh3 (k := 38 + 5 * c) (nI_clamp (by omega)) (by omega)) ?_
    have bq1 := jw_at Wh3 (c := c) (by omega)
    refine jt_go jm_m206 49 1 (f' := (95, [(0, .inr (.inr (4, 0, 0))), (1, .inl (nI c)), (2, .inl (nI p)), (3, .inl (nI n)), (4, .inl (nI (sp_it g n (38 + 5 * c)))), (5, .inl (nI (k + 1)))], [.inl (nI (sp_it g n (38 + 5 * c))), .inl (nI ((sp_it (sp_af g p (k + 1)) n) (38 + 5 * c)))], h3)) (P := True) rfl trivial ?_
    refine jt_niceq jm_m206 50 (a := (sp_it (sp_af g p (k + 1)) n) (38 + 5 * c)) (b := sp_it g n (38 + 5 * c)) (by omega) (by omega) (tgt := 101) (nxt := 98) rfl rfl rfl (fun c95 => ?_) (fun c95 => ?_)
    · refine jt_inc jm_m206 53 (c := k + 1) (L' := [(5, .inl (nI (k + 1 + 1))), (0, .inr (.inr (4, 0, 0))), (1, .inl (nI c)), (2, .inl (nI p)), (3, .inl (nI n)), (4, .inl (nI (sp_it g n (38 + 5 * c))))]) rfl rfl rfl rfl ?_
      refine jt_go jm_m206 54 1 (f' := (47, [(5, .inl (nI (k + 1 + 1))), (0, .inr (.inr (4, 0, 0))), (1, .inl (nI c)), (2, .inl (nI p)), (3, .inl (nI n)), (4, .inl (nI (sp_it g n (38 + 5 * c))))], [], h3)) (P := True) rfl trivial ?_
      refine jt_pick (L' := [(0, .inr (.inr (4, 0, 0))), (1, .inl (nI c)), (2, .inl (nI p)), (3, .inl (nI n)), (4, .inl (nI (sp_it g n (38 + 5 * c)))), (5, .inl (nI (k + 1 + 1)))]) [1, 2, 3, 4, 5, 0] rfl ?_
      rw [sp_fi_neg (by omega) (fun z => (of_decide_eq_true z) c95)]
      exact nx (by omega) h3 Zh3 Fh3
    · refine jt_go jm_m206 51 1 (f' := (100, [(0, .inr (.inr (4, 0, 0))), (1, .inl (nI c)), (2, .inl (nI p)), (3, .inl (nI n)), (4, .inl (nI (sp_it g n (38 + 5 * c)))), (5, .inl (nI (k + 1)))], [.inl (nI (k + 1))], h3)) (P := True) rfl trivial ?_
      refine jt_iret jm_m206 52 rfl ?_
      rw [sp_fi_pos (by omega) (decide_eq_true c95)]
      exact ⟨rfl, Fh3⟩)
def zb_bribe (g : Nat → Nat) (c p n : Nat) : Int32 := jo ((sp_fi (fun k => decide (¬ sp_it (sp_af g p (k + 1)) n (38 + 5 * c) = sp_it g n (38 + 5 * c))) 0 9).map (fun z => z + 1))
def za_bribe (g : Nat → Nat) (x y z : Int32) : Int32 := if (nI 0 ≤ x ∧ x < nI (g 0)) ∧ (nI 0 ≤ y ∧ y ≤ nI 15) ∧ (nI 0 ≤ z ∧ z ≤ nI 99) then zb_bribe g x.toNatClampNeg y.toNatClampNeg z.toNatClampNeg else (-1)
set_option maxHeartbeats 4000000 in
set_option maxRecDepth 20000 in
theorem ca_bribe {h : jm_M} {g : Nat → Nat} (R : jf_rel h 0 g) (W : jw g) {x y z : Int32} : jt_T 102 (0, [(0, .inr (.inr (0, 0, 0))), (1, .inl (x)), (2, .inl (y)), (3, .inl (z))], [], h) (fun u h' => u = some (.inl (za_bribe g x y z)) ∧ jf_fr 1 h h') := by
  have bn := jw_n W
  have bm := jw_m W
  have bt := jw_t W
  refine jt_go jm_m102 0 3 (f' := (5, [(0, .inr (.inr (0, 0, 0))), (1, .inl (x)), (2, .inl (y)), (3, .inl (z))], [.inl (x), .inr (.inr (2, 0, 0))], h)) (P := True) rfl trivial ?_
  refine jt_callp (w := .inl (jm_b (nI 0 ≤ x ∧ x < nI (g 0)))) jm_m102 3 (mi' := 7) (as := [.inr (.inr (2, 0, 0)), .inl (x)]) (rest := []) (nxt := 8) rfl rfl jm_m7 rfl rfl (ta_hasCat R W) ?_
  refine jt_ifbeq jm_m102 4 (tgt := 25) (nxt := 11) rfl rfl rfl (fun c8 => ?_) (fun c8 => ?_)
  · refine jt_go jm_m102 11 1 (f' := (26, [(0, .inr (.inr (0, 0, 0))), (1, .inl (x)), (2, .inl (y)), (3, .inl (z))], [.inl ((-1))], h)) (P := True) rfl trivial ?_
    refine jt_iret jm_m102 12 rfl ?_
    exact ⟨jt_li (if_neg (fun z => c8 z.1)).symm, jf_fr_rf⟩
  · obtain ⟨c, hbc, rfl⟩ := jx_cat (by omega) c8
    refine jt_go jm_m102 5 1 (f' := (12, [(0, .inr (.inr (0, 0, 0))), (1, .inl (nI c)), (2, .inl (y)), (3, .inl (z))], [.inl (y)], h)) (P := True) rfl trivial ?_
    refine jt_callp (w := .inl (jm_b (nI 0 ≤ y ∧ y ≤ nI 15))) jm_m102 6 (mi' := 138) (as := [.inl (y)]) (rest := []) (nxt := 15) rfl rfl jm_m138 rfl rfl (ta_place) ?_
    refine jt_ifbeq jm_m102 7 (tgt := 25) (nxt := 18) rfl rfl rfl (fun c15 => ?_) (fun c15 => ?_)
    · refine jt_go jm_m102 11 1 (f' := (26, [(0, .inr (.inr (0, 0, 0))), (1, .inl (nI c)), (2, .inl (y)), (3, .inl (z))], [.inl ((-1))], h)) (P := True) rfl trivial ?_
      refine jt_iret jm_m102 12 rfl ?_
      exact ⟨jt_li (if_neg (fun z => c15 z.2.1)).symm, jf_fr_rf⟩
    · obtain ⟨p, hbp, rfl⟩ := jx_win (by decide) c15
      refine jt_go jm_m102 8 1 (f' := (19, [(0, .inr (.inr (0, 0, 0))), (1, .inl (nI c)), (2, .inl (nI p)), (3, .inl (z))], [.inl (z)], h)) (P := True) rfl trivial ?_
      refine jt_callp (w := .inl (jm_b (nI 0 ≤ z ∧ z ≤ nI 99))) jm_m102 9 (mi' := 141) (as := [.inl (z)]) (rest := []) (nxt := 22) rfl rfl jm_m141 rfl rfl (ta_ahead) ?_
      refine jt_ifbne jm_m102 10 (tgt := 27) (nxt := 25) rfl rfl rfl (fun c22 => ?_) (fun c22 => ?_)
      · obtain ⟨n, hbn, rfl⟩ := jx_win (by decide) c22
        refine jt_go jm_m102 13 2 (f' := (29, [(0, .inr (.inr (0, 0, 0))), (1, .inl (nI c)), (2, .inl (nI p)), (3, .inl (nI n))], [.inl (nI n), .inr (.inr (0, 0, 0))], h)) (P := True) rfl trivial ?_
        refine jt_call jm_m102 15 (mi' := 132) (as := [.inr (.inr (0, 0, 0)), .inl (nI n)]) (rest := []) (nxt := 32) rfl rfl jm_m132 rfl rfl (ta_look R W (by omega)) ?_
        rintro u h1 ⟨rfl, Rh1, Fh1⟩
        show jt_T 102 (32, [(0, .inr (.inr (0, 0, 0))), (1, .inl (nI c)), (2, .inl (nI p)), (3, .inl (nI n))], [], h1) _
        have Rh1 : jf_rel h1 1 (sp_it g n) := Rh1
        have Wh1 : jw (sp_it g n) := (jw_it W _).1
        have Zh1 := jf_mov0 R Fh1
        refine jt_go jm_m102 16 5 (f' := (41, [(0, .inr (.inr (0, 0, 0))), (1, .inl (nI c)), (2, .inl (nI p)), (3, .inl (nI n))], [.inl (h1 (2, 1, 3) (nI c).toNatClampNeg)], h1)) (P := vp_in (nI c) 6 ∧ True) rfl ⟨(vp_in_nI (by omega) (by decide)), trivial⟩ ?_
        refine jt_ti (show (h1 (2, 1, 3) (nI c).toNatClampNeg) = nI ((sp_it g n) (38 + 5 * c)) from jf_at Rh1 (c := c) (nI_clamp (by omega)) (by omega)) ?_
        have bq1 := jw_at Wh1 (c := c) (by omega)
        refine jt_go jm_m102 21 3 (f' := (46, [(5, .inl (nI 1)), (4, .inl (nI ((sp_it g n) (38 + 5 * c)))), (0, .inr (.inr (0, 0, 0))), (1, .inl (nI c)), (2, .inl (nI p)), (3, .inl (nI n))], [], h1)) (P := True) rfl trivial ?_
        refine jt_pick (L' := [(0, .inr (.inr (0, 0, 0))), (1, .inl (nI c)), (2, .inl (nI p)), (3, .inl (nI n)), (4, .inl (nI ((sp_it g n) (38 + 5 * c)))), (5, .inl (nI 1))]) [2, 3, 4, 5, 1, 0] rfl ?_
        refine jt_mono (ca_bribe_l (h := h1) W hbc (by omega) hbn 0 (Nat.zero_le _) _ Zh1 jf_fr_rf) (fun u h2 zz => ⟨zz.1.trans (jt_li ?_), jf_fr_tr Fh1 zz.2⟩)
        unfold za_bribe
        refine Eq.trans ?_ (if_pos ⟨c8, c15, c22⟩).symm
        rw [nI_clamp (n := c) (by omega), nI_clamp (n := p) (by omega), nI_clamp (n := n) (by omega)]
        unfold zb_bribe
        first | done | rfl
      · refine jt_go jm_m102 11 1 (f' := (26, [(0, .inr (.inr (0, 0, 0))), (1, .inl (nI c)), (2, .inl (nI p)), (3, .inl (z))], [.inl ((-1))], h)) (P := True) rfl trivial ?_
        refine jt_iret jm_m102 12 rfl ?_
        exact ⟨jt_li (if_neg (fun z => c22 z.2.2)).symm, jf_fr_rf⟩
set_option maxHeartbeats 4000000 in
set_option maxRecDepth 20000 in
theorem cb_bribe {h : jm_M} {g : Nat → Nat} (R : jg_rel h 0 g) (W : jw g) {x y z : Int32} : jt_T 206 (0, [(0, .inr (.inr (4, 0, 0))), (1, .inl (x)), (2, .inl (y)), (3, .inl (z))], [], h) (fun u h' => u = some (.inl (za_bribe g x y z)) ∧ jg_fr 1 h h') := by
  have bn := jw_n W
  have bm := jw_m W
  have bt := jw_t W
  refine jt_go jm_m206 0 2 (f' := (2, [(0, .inr (.inr (4, 0, 0))), (1, .inl (x)), (2, .inl (y)), (3, .inl (z))], [.inl (x), .inr (.inr (4, 0, 0))], h)) (P := True) rfl trivial ?_
  refine jt_callp (w := .inl (jm_b (nI 0 ≤ x ∧ x < nI (g 0)))) jm_m206 2 (mi' := 149) (as := [.inr (.inr (4, 0, 0)), .inl (x)]) (rest := []) (nxt := 5) rfl rfl jm_m149 rfl rfl (tb_isCat R W) ?_
  refine jt_ifbeq jm_m206 3 (tgt := 25) (nxt := 8) rfl rfl rfl (fun c5 => ?_) (fun c5 => ?_)
  · refine jt_go jm_m206 12 1 (f' := (26, [(0, .inr (.inr (4, 0, 0))), (1, .inl (x)), (2, .inl (y)), (3, .inl (z))], [.inl ((-1))], h)) (P := True) rfl trivial ?_
    refine jt_iret jm_m206 13 rfl ?_
    exact ⟨jt_li (if_neg (fun z => c5 z.1)).symm, jg_fr_rf⟩
  · obtain ⟨c, hbc, rfl⟩ := jx_cat (by omega) c5
    refine jt_go jm_m206 4 1 (f' := (9, [(0, .inr (.inr (4, 0, 0))), (1, .inl (nI c)), (2, .inl (y)), (3, .inl (z))], [.inl (y)], h)) (P := True) rfl trivial ?_
    refine jt_callp (w := .inl (jm_b (nI 0 ≤ y ∧ y ≤ nI 15))) jm_m206 5 (mi' := 151) (as := [.inl (y)]) (rest := []) (nxt := 12) rfl rfl jm_m151 rfl rfl (tb_place) ?_
    refine jt_ifbeq jm_m206 6 (tgt := 25) (nxt := 15) rfl rfl rfl (fun c12 => ?_) (fun c12 => ?_)
    · refine jt_go jm_m206 12 1 (f' := (26, [(0, .inr (.inr (4, 0, 0))), (1, .inl (nI c)), (2, .inl (y)), (3, .inl (z))], [.inl ((-1))], h)) (P := True) rfl trivial ?_
      refine jt_iret jm_m206 13 rfl ?_
      exact ⟨jt_li (if_neg (fun z => c12 z.2.1)).symm, jg_fr_rf⟩
    · obtain ⟨p, hbp, rfl⟩ := jx_win (by decide) c12
      refine jt_go jm_m206 7 3 (f' := (19, [(0, .inr (.inr (4, 0, 0))), (1, .inl (nI c)), (2, .inl (nI p)), (3, .inl (z))], [.inl (nI 99), .inl (nI 0), .inl (z)], h)) (P := True) rfl trivial ?_
      refine jt_callp (w := .inl (jm_b (nI 0 ≤ z ∧ z ≤ nI 99))) jm_m206 10 (mi' := 143) (as := [.inl (z), .inl (nI 0), .inl (nI 99)]) (rest := []) (nxt := 22) rfl rfl jm_m143 rfl rfl (tb_isIn) ?_
      refine jt_ifbne jm_m206 11 (tgt := 27) (nxt := 25) rfl rfl rfl (fun c22 => ?_) (fun c22 => ?_)
      · obtain ⟨n, hbn, rfl⟩ := jx_win (by decide) c22
        refine jt_go jm_m206 14 2 (f' := (29, [(0, .inr (.inr (4, 0, 0))), (1, .inl (nI c)), (2, .inl (nI p)), (3, .inl (nI n))], [.inl (nI n), .inr (.inr (4, 0, 0))], h)) (P := True) rfl trivial ?_
        refine jt_call jm_m206 16 (mi' := 185) (as := [.inr (.inr (4, 0, 0)), .inl (nI n)]) (rest := []) (nxt := 32) rfl rfl jm_m185 rfl rfl (tb_takes R W (by omega)) ?_
        rintro u h1 ⟨rfl, Rh1, Fh1⟩
        show jt_T 206 (32, [(0, .inr (.inr (4, 0, 0))), (1, .inl (nI c)), (2, .inl (nI p)), (3, .inl (nI n))], [], h1) _
        have Rh1 : jg_rel h1 1 (sp_it g n) := Rh1
        have Wh1 : jw (sp_it g n) := (jw_it W _).1
        have Zh1 := jg_mov0 R Fh1
        refine jt_go jm_m206 17 4 (f' := (38, [(0, .inr (.inr (4, 0, 0))), (1, .inl (nI c)), (2, .inl (nI p)), (3, .inl (nI n))], [.inl (nI 2), .inl (nI c), .inr (.inr (5, 1, 0))], h1)) (P := True) rfl trivial ?_
        refine jt_callp (w := .inl (nI (38 + 5 * c))) jm_m206 21 (mi' := 147) (as := [.inl (nI c), .inl (nI 2)]) (rest := [.inr (.inr (5, 1, 0))]) (nxt := 41) rfl rfl jm_m147 rfl rfl (tb_ofC (k := 38 + 5 * c) (by omega)) ?_
        refine jt_go jm_m206 22 1 (f' := (42, [(0, .inr (.inr (4, 0, 0))), (1, .inl (nI c)), (2, .inl (nI p)), (3, .inl (nI n))], [.inl (h1 (5, 1, 0) (nI (38 + 5 * c)).toNatClampNeg)], h1)) (P := vp_in (nI (38 + 5 * c)) 78 ∧ True) rfl ⟨(vp_in_nI (by omega) (by decide)), trivial⟩ ?_
        refine jt_ti (show (h1 (5, 1, 0) (nI (38 + 5 * c)).toNatClampNeg) = nI ((sp_it g n) (38 + 5 * c)) from jg_get Rh1 (k := 38 + 5 * c) (nI_clamp (by omega)) (by omega)) ?_
        have bq1 := jw_at Wh1 (c := c) (by omega)
        refine jt_go jm_m206 23 3 (f' := (47, [(5, .inl (nI 1)), (4, .inl (nI ((sp_it g n) (38 + 5 * c)))), (0, .inr (.inr (4, 0, 0))), (1, .inl (nI c)), (2, .inl (nI p)), (3, .inl (nI n))], [], h1)) (P := True) rfl trivial ?_
        refine jt_pick (L' := [(0, .inr (.inr (4, 0, 0))), (1, .inl (nI c)), (2, .inl (nI p)), (3, .inl (nI n)), (4, .inl (nI ((sp_it g n) (38 + 5 * c)))), (5, .inl (nI 1))]) [2, 3, 4, 5, 1, 0] rfl ?_
        refine jt_mono (cb_bribe_l (h := h1) W hbc (by omega) hbn 0 (Nat.zero_le _) _ Zh1 jg_fr_rf) (fun u h2 zz => ⟨zz.1.trans (jt_li ?_), jg_fr_tr Fh1 zz.2⟩)
        unfold za_bribe
        refine Eq.trans ?_ (if_pos ⟨c5, c12, c22⟩).symm
        rw [nI_clamp (n := c) (by omega), nI_clamp (n := p) (by omega), nI_clamp (n := n) (by omega)]
        unfold zb_bribe
        first | done | rfl
      · refine jt_go jm_m206 12 1 (f' := (26, [(0, .inr (.inr (4, 0, 0))), (1, .inl (nI c)), (2, .inl (nI p)), (3, .inl (z))], [.inl ((-1))], h)) (P := True) rfl trivial ?_
        refine jt_iret jm_m206 13 rfl ?_
        exact ⟨jt_li (if_neg (fun z => c22 z.2.2)).symm, jg_fr_rf⟩
set_option maxHeartbeats 4000000 in
set_option maxRecDepth 20000 in
theorem ca_tog_l {h : jm_M} {g : Nat → Nat} (W : jw g) {n w : Nat} (hnn : n ≤ 99) (hw : w ≤ 2) : ∀ k, k ≤ n → ∀ hm : jm_M, (jf_rel hm 1 (sp_it g k)) → (jf_fr 1 h hm) → jt_T 96 (38, [(0, .inr (.inr (0, 0, 0))), (1, .inl (nI n)), (2, .inl (nI w)), (3, .inl (nI ((sp_tog g k).1))), (4, .inl (jo (sp_tog g k).2)), (5, .inl (nI (k + 1)))], [], hm) (fun u h' => u = some (.inl (if w = 0 then nI (sp_tog g n).1 else if w = 1 then nI (sp_cnt (sp_tog g n).1) else jo (sp_tog g n).2)) ∧ jf_fr 1 h h') := jx_up (P := fun k => ∀ hm : jm_M, (jf_rel hm 1 (sp_it g k)) → (jf_fr 1 h hm) → jt_T 96 (38, [(0, .inr (.inr (0, 0, 0))), (1, .inl (nI n)), (2, .inl (nI w)), (3, .inl (nI ((sp_tog g k).1))), (4, .inl (jo (sp_tog g k).2)), (5, .inl (nI (k + 1)))], [], hm) (fun u h' => u = some (.inl (if w = 0 then nI (sp_tog g n).1 else if w = 1 then nI (sp_cnt (sp_tog g n).1) else jo (sp_tog g n).2)) ∧ jf_fr 1 h h')) (fun k hk nx hm Rm Fm => by
  have Wk := (jw_it W k).1
  have e0 := (jw_it W k).2.1
  have e1 := (jw_it W k).2.2
  have bn := jw_n W
  have bm := jw_m W
  have bz := sp_tog_lt W k
  have bz2 := sp_cnt_le _ (show (sp_tog g k).1 < 128 by omega)
  refine jt_go jm_m96 21 2 (f' := (41, [(0, .inr (.inr (0, 0, 0))), (1, .inl (nI n)), (2, .inl (nI w)), (3, .inl (nI ((sp_tog g k).1))), (4, .inl (jo (sp_tog g k).2)), (5, .inl (nI (k + 1)))], [.inl (nI n), .inl (nI (k + 1))], hm)) (P := True) rfl trivial ?_
  refine jt_nicgt jm_m96 23 (a := k + 1) (b := n) (by omega) (by omega) (tgt := 86) (nxt := 44) rfl rfl rfl (fun c41 => ?_) (fun c41 => ?_)
  · refine jt_go jm_m96 42 1 (f' := (87, [(0, .inr (.inr (0, 0, 0))), (1, .inl (nI n)), (2, .inl (nI w)), (3, .inl (nI ((sp_tog g k).1))), (4, .inl (jo (sp_tog g k).2)), (5, .inl (nI (k + 1)))], [.inl (nI w)], hm)) (P := True) rfl trivial ?_
    refine jt_ls jm_m96 43 rfl ⟨fun d0 => ?_, fun d0 => ⟨fun d1 => ?_, fun d1 => ?_⟩⟩
    · have d0 : w = 0 := nI_inj (by omega) (by decide) d0
      show jt_T 96 (112, [(0, .inr (.inr (0, 0, 0))), (1, .inl (nI n)), (2, .inl (nI w)), (3, .inl (nI ((sp_tog g k).1))), (4, .inl (jo (sp_tog g k).2)), (5, .inl (nI (k + 1)))], [], hm) _
      refine jt_go jm_m96 44 1 (f' := (113, [(0, .inr (.inr (0, 0, 0))), (1, .inl (nI n)), (2, .inl (nI w)), (3, .inl (nI ((sp_tog g k).1))), (4, .inl (jo (sp_tog g k).2)), (5, .inl (nI (k + 1)))], [.inl (nI ((sp_tog g k).1))], hm)) (P := True) rfl trivial ?_
      refine jt_iret jm_m96 45 rfl ?_
      have e : k = n := by omega
      subst e
      refine ⟨jt_li ?_, Fm⟩
      have hw0 : w = 0 := by first | assumption | exact nI_inj (by omega) (by decide) d0
      (repeat' split) <;> first | rfl | (exfalso; omega)
    · have d1 : w = 1 := nI_inj (by omega) (by decide) d1
      show jt_T 96 (114, [(0, .inr (.inr (0, 0, 0))), (1, .inl (nI n)), (2, .inl (nI w)), (3, .inl (nI ((sp_tog g k).1))), (4, .inl (jo (sp_tog g k).2)), (5, .inl (nI (k + 1)))], [], hm) _
      refine jt_go jm_m96 46 1 (f' := (115, [(0, .inr (.inr (0, 0, 0))), (1, .inl (nI n)), (2, .inl (nI w)), (3, .inl (nI ((sp_tog g k).1))), (4, .inl (jo (sp_tog g k).2)), (5, .inl (nI (k + 1)))], [.inl (nI ((sp_tog g k).1))], hm)) (P := True) rfl trivial ?_
      refine jt_callp (w := .inl (nI (sp_cnt ((sp_tog g k).1)))) jm_m96 47 (mi' := 238) (as := [.inl (nI ((sp_tog g k).1))]) (rest := []) (nxt := 118) rfl rfl jm_m238 rfl rfl (tj_bits (by omega)) ?_
      have bq1 := sp_cnt_le ((sp_tog g k).1) (by omega)
      refine jt_iret jm_m96 48 rfl ?_
      have e : k = n := by omega
      subst e
      refine ⟨jt_li ?_, Fm⟩
      have hw1 : w = 1 := by first | assumption | exact nI_inj (by omega) (by decide) d1
      (repeat' split) <;> first | rfl | (exfalso; omega)
    · have d0 : ¬ w = 0 := fun z => d0 (by rw [z]; rfl)
      have d1 : ¬ w = 1 := fun z => d1 (by rw [z]; rfl)
      show jt_T 96 (119, [(0, .inr (.inr (0, 0, 0))), (1, .inl (nI n)), (2, .inl (nI w)), (3, .inl (nI ((sp_tog g k).1))), (4, .inl (jo (sp_tog g k).2)), (5, .inl (nI (k + 1)))], [], hm) _
      refine jt_go jm_m96 49 1 (f' := (121, [(0, .inr (.inr (0, 0, 0))), (1, .inl (nI n)), (2, .inl (nI w)), (3, .inl (nI ((sp_tog g k).1))), (4, .inl (jo (sp_tog g k).2)), (5, .inl (nI (k + 1)))], [.inl (jo (sp_tog g k).2)], hm)) (P := True) rfl trivial ?_
      refine jt_iret jm_m96 50 rfl ?_
      have e : k = n := by omega
      subst e
      refine ⟨jt_li ?_, Fm⟩
      (repeat' split) <;> first | rfl | (exfalso; omega)
  · refine jt_go jm_m96 24 2 (f' := (48, [(0, .inr (.inr (0, 0, 0))), (1, .inl (nI n)), (2, .inl (nI w)), (3, .inl (nI ((sp_tog g k).1))), (4, .inl (jo (sp_tog g k).2)), (5, .inl (nI (k + 1)))], [.inr (.inr (2, 1, 0))], hm)) (P := True) rfl trivial ?_
    refine jt_call jm_m96 26 (mi' := 18) (as := [.inr (.inr (2, 1, 0))]) (rest := []) (nxt := 51) rfl rfl jm_m18 rfl rfl (ta_hour Rm Wk) ?_
    rintro u h1 ⟨rfl, Rh1, Fh1, Ch1⟩
    show jt_T 96 (51, [(0, .inr (.inr (0, 0, 0))), (1, .inl (nI n)), (2, .inl (nI w)), (3, .inl (nI ((sp_tog g k).1))), (4, .inl (jo (sp_tog g k).2)), (5, .inl (nI (k + 1)))], [], h1) _
    have Rh1 : jf_rel h1 1 (sp_it g (k + 1)) := Rh1
    have Wh1 := (jw_it W (k + 1)).1
    have uh1 := sp_set_lt Wk (kept := false)
    have Fh1 := jf_fr_tr Fm Fh1
    refine jt_go jm_m96 27 3 (f' := (58, [(0, .inr (.inr (0, 0, 0))), (1, .inl (nI n)), (2, .inl (nI w)), (3, .inl (nI ((sp_tog g k).1))), (4, .inl (jo (sp_tog g k).2)), (5, .inl (nI (k + 1)))], [.inl (h1 (2, 1, 0) 14)], h1)) (P := True) rfl trivial ?_
    refine jt_ti (show (h1 (2, 1, 0) 14) = nI (sp_set (sp_it g k) false) from Ch1) ?_
    refine jt_callp (w := .inl (nI (sp_cnt (sp_set (sp_it g k) false)))) jm_m96 30 (mi' := 238) (as := [.inl (nI (sp_set (sp_it g k) false))]) (rest := []) (nxt := 61) rfl rfl jm_m238 rfl rfl (tj_bits (by omega)) ?_
    have bq2 := sp_cnt_le (sp_set (sp_it g k) false) (by omega)
    refine jt_go jm_m96 31 1 (f' := (62, [(0, .inr (.inr (0, 0, 0))), (1, .inl (nI n)), (2, .inl (nI w)), (3, .inl (nI ((sp_tog g k).1))), (4, .inl (jo (sp_tog g k).2)), (5, .inl (nI (k + 1)))], [.inl (nI ((sp_tog g k).1)), .inl (nI (sp_cnt (sp_set (sp_it g k) false)))], h1)) (P := True) rfl trivial ?_
    refine jt_callp (w := .inl (nI (sp_cnt ((sp_tog g k).1)))) jm_m96 32 (mi' := 238) (as := [.inl (nI ((sp_tog g k).1))]) (rest := [.inl (nI (sp_cnt (sp_set (sp_it g k) false)))]) (nxt := 65) rfl rfl jm_m238 rfl rfl (tj_bits (by omega)) ?_
    have bq3 := sp_cnt_le ((sp_tog g k).1) (by omega)
    refine jt_nicle jm_m96 33 (a := sp_cnt (sp_set (sp_it g k) false)) (b := sp_cnt ((sp_tog g k).1)) (by omega) (by omega) (tgt := 80) (nxt := 68) rfl rfl rfl (fun c65 => ?_) (fun c65 => ?_)
    · refine jt_inc jm_m96 40 (c := k + 1) (L' := [(5, .inl (nI (k + 1 + 1))), (0, .inr (.inr (0, 0, 0))), (1, .inl (nI n)), (2, .inl (nI w)), (3, .inl (nI ((sp_tog g k).1))), (4, .inl (jo (sp_tog g k).2))]) rfl rfl rfl rfl ?_
      refine jt_go jm_m96 41 1 (f' := (38, [(5, .inl (nI (k + 1 + 1))), (0, .inr (.inr (0, 0, 0))), (1, .inl (nI n)), (2, .inl (nI w)), (3, .inl (nI ((sp_tog g k).1))), (4, .inl (jo (sp_tog g k).2))], [], h1)) (P := True) rfl trivial ?_
      refine jt_pick (L' := [(0, .inr (.inr (0, 0, 0))), (1, .inl (nI n)), (2, .inl (nI w)), (3, .inl (nI ((sp_tog g k).1))), (4, .inl (jo (sp_tog g k).2)), (5, .inl (nI (k + 1 + 1)))]) [1, 2, 3, 4, 5, 0] rfl ?_
      have e : sp_tog g (k + 1) = sp_tog g k := if_neg (by omega)
      have q := nx (by omega) h1 Rh1 Fh1
      rw [e] at q
      exact q
    · refine jt_go jm_m96 34 3 (f' := (75, [(0, .inr (.inr (0, 0, 0))), (1, .inl (nI n)), (2, .inl (nI w)), (3, .inl (nI ((sp_tog g k).1))), (4, .inl (jo (sp_tog g k).2)), (5, .inl (nI (k + 1)))], [.inl (h1 (2, 1, 0) 14)], h1)) (P := True) rfl trivial ?_
      refine jt_ti (show (h1 (2, 1, 0) 14) = nI (sp_set (sp_it g k) false) from Ch1) ?_
      refine jt_go jm_m96 37 3 (f' := (80, [(4, .inl (nI (k + 1))), (3, .inl (nI (sp_set (sp_it g k) false))), (0, .inr (.inr (0, 0, 0))), (1, .inl (nI n)), (2, .inl (nI w)), (5, .inl (nI (k + 1)))], [], h1)) (P := True) rfl trivial ?_
      refine jt_inc jm_m96 40 (c := k + 1) (L' := [(5, .inl (nI (k + 1 + 1))), (4, .inl (nI (k + 1))), (3, .inl (nI (sp_set (sp_it g k) false))), (0, .inr (.inr (0, 0, 0))), (1, .inl (nI n)), (2, .inl (nI w))]) rfl rfl rfl rfl ?_
      refine jt_go jm_m96 41 1 (f' := (38, [(5, .inl (nI (k + 1 + 1))), (4, .inl (nI (k + 1))), (3, .inl (nI (sp_set (sp_it g k) false))), (0, .inr (.inr (0, 0, 0))), (1, .inl (nI n)), (2, .inl (nI w))], [], h1)) (P := True) rfl trivial ?_
      refine jt_pick (L' := [(0, .inr (.inr (0, 0, 0))), (1, .inl (nI n)), (2, .inl (nI w)), (3, .inl (nI (sp_set (sp_it g k) false))), (4, .inl (nI (k + 1))), (5, .inl (nI (k + 1 + 1)))]) [3, 4, 5, 2, 1, 0] rfl ?_
      have e : sp_tog g (k + 1) = (sp_set (sp_it g k) false, some (k + 1)) := if_pos (by omega)
      have q := nx (by omega) h1 Rh1 Fh1
      rw [e] at q
      exact q)
set_option maxHeartbeats 4000000 in
set_option maxRecDepth 20000 in
theorem cb_tog_l {h : jm_M} {g : Nat → Nat} (W : jw g) {n w : Nat} (hnn : n ≤ 99) (hw : w ≤ 2) : ∀ k, k ≤ n → ∀ hm : jm_M, (jg_rel hm 1 (sp_it g k)) → (jg_fr 1 h hm) → jt_T 201 (41, [(0, .inr (.inr (4, 0, 0))), (1, .inl (nI n)), (2, .inl (nI w)), (3, .inl (nI ((sp_tog g k).1))), (4, .inl (jo (sp_tog g k).2)), (5, .inl (nI (k + 1)))], [], hm) (fun u h' => u = some (.inl (if w = 0 then nI (sp_tog g n).1 else if w = 1 then nI (sp_cnt (sp_tog g n).1) else jo (sp_tog g n).2)) ∧ jg_fr 1 h h') := jx_up (P := fun k => ∀ hm : jm_M, (jg_rel hm 1 (sp_it g k)) → (jg_fr 1 h hm) → jt_T 201 (41, [(0, .inr (.inr (4, 0, 0))), (1, .inl (nI n)), (2, .inl (nI w)), (3, .inl (nI ((sp_tog g k).1))), (4, .inl (jo (sp_tog g k).2)), (5, .inl (nI (k + 1)))], [], hm) (fun u h' => u = some (.inl (if w = 0 then nI (sp_tog g n).1 else if w = 1 then nI (sp_cnt (sp_tog g n).1) else jo (sp_tog g n).2)) ∧ jg_fr 1 h h')) (fun k hk nx hm Rm Fm => by
  have Wk := (jw_it W k).1
  have e0 := (jw_it W k).2.1
  have e1 := (jw_it W k).2.2
  have bn := jw_n W
  have bm := jw_m W
  have bz := sp_tog_lt W k
  have bz2 := sp_cnt_le _ (show (sp_tog g k).1 < 128 by omega)
  refine jt_go jm_m201 23 2 (f' := (44, [(0, .inr (.inr (4, 0, 0))), (1, .inl (nI n)), (2, .inl (nI w)), (3, .inl (nI ((sp_tog g k).1))), (4, .inl (jo (sp_tog g k).2)), (5, .inl (nI (k + 1)))], [.inl (nI n), .inl (nI (k + 1))], hm)) (P := True) rfl trivial ?_
  refine jt_nicgt jm_m201 25 (a := k + 1) (b := n) (by omega) (by omega) (tgt := 85) (nxt := 47) rfl rfl rfl (fun c44 => ?_) (fun c44 => ?_)
  · refine jt_go jm_m201 43 1 (f' := (86, [(0, .inr (.inr (4, 0, 0))), (1, .inl (nI n)), (2, .inl (nI w)), (3, .inl (nI ((sp_tog g k).1))), (4, .inl (jo (sp_tog g k).2)), (5, .inl (nI (k + 1)))], [.inl (nI w)], hm)) (P := True) rfl trivial ?_
    refine jt_nifne jm_m201 44 (by omega) (tgt := 93) (nxt := 89) rfl rfl rfl (fun c86 => ?_) (fun c86 => ?_)
    · refine jt_go jm_m201 47 2 (f' := (95, [(0, .inr (.inr (4, 0, 0))), (1, .inl (nI n)), (2, .inl (nI w)), (3, .inl (nI ((sp_tog g k).1))), (4, .inl (jo (sp_tog g k).2)), (5, .inl (nI (k + 1)))], [.inl (nI 1), .inl (nI w)], hm)) (P := True) rfl trivial ?_
      refine jt_nicne jm_m201 49 (a := w) (b := 1) (by omega) (by omega) (tgt := 105) (nxt := 98) rfl rfl rfl (fun c95 => ?_) (fun c95 => ?_)
      · refine jt_go jm_m201 53 1 (f' := (107, [(0, .inr (.inr (4, 0, 0))), (1, .inl (nI n)), (2, .inl (nI w)), (3, .inl (nI ((sp_tog g k).1))), (4, .inl (jo (sp_tog g k).2)), (5, .inl (nI (k + 1)))], [.inl (jo (sp_tog g k).2)], hm)) (P := True) rfl trivial ?_
        refine jt_iret jm_m201 54 rfl ?_
        have e : k = n := by omega
        subst e
        refine ⟨jt_li ?_, Fm⟩
        (repeat' split) <;> first | rfl | (exfalso; omega) | skip
      · refine jt_go jm_m201 50 1 (f' := (99, [(0, .inr (.inr (4, 0, 0))), (1, .inl (nI n)), (2, .inl (nI w)), (3, .inl (nI ((sp_tog g k).1))), (4, .inl (jo (sp_tog g k).2)), (5, .inl (nI (k + 1)))], [.inl (nI ((sp_tog g k).1))], hm)) (P := True) rfl trivial ?_
        refine jt_callp (w := .inl (nI (sp_cnt ((sp_tog g k).1)))) jm_m201 51 (mi' := 153) (as := [.inl (nI ((sp_tog g k).1))]) (rest := []) (nxt := 102) rfl rfl jm_m153 rfl rfl (tb_bits (by omega)) ?_
        have bq1 := sp_cnt_le ((sp_tog g k).1) (by omega)
        refine jt_go jm_m201 52 1 (f' := (107, [(0, .inr (.inr (4, 0, 0))), (1, .inl (nI n)), (2, .inl (nI w)), (3, .inl (nI ((sp_tog g k).1))), (4, .inl (jo (sp_tog g k).2)), (5, .inl (nI (k + 1)))], [.inl (nI (sp_cnt ((sp_tog g k).1)))], hm)) (P := True) rfl trivial ?_
        refine jt_iret jm_m201 54 rfl ?_
        have e : k = n := by omega
        subst e
        refine ⟨jt_li ?_, Fm⟩
        (repeat' split) <;> first | rfl | (exfalso; omega) | skip
    · refine jt_go jm_m201 45 2 (f' := (107, [(0, .inr (.inr (4, 0, 0))), (1, .inl (nI n)), (2, .inl (nI w)), (3, .inl (nI ((sp_tog g k).1))), (4, .inl (jo (sp_tog g k).2)), (5, .inl (nI (k + 1)))], [.inl (nI ((sp_tog g k).1))], hm)) (P := True) rfl trivial ?_
      refine jt_iret jm_m201 54 rfl ?_
      have e : k = n := by omega
      subst e
      refine ⟨jt_li ?_, Fm⟩
      (repeat' split) <;> first | rfl | (exfalso; omega) | skip
  · refine jt_go jm_m201 26 3 (f' := (52, [(0, .inr (.inr (4, 0, 0))), (1, .inl (nI n)), (2, .inl (nI w)), (3, .inl (nI ((sp_tog g k).1))), (4, .inl (jo (sp_tog g k).2)), (5, .inl (nI (k + 1)))], [.inl (nI 0), .inr (.inr (5, 1, 0))], hm)) (P := True) rfl trivial ?_
    refine jt_call jm_m201 29 (mi' := 163) (as := [.inr (.inr (5, 1, 0)), .inl (nI 0)]) (rest := []) (nxt := 55) rfl rfl jm_m163 rfl rfl (tb_hour0 Rm Wk) ?_
    rintro u h1 ⟨rfl, Rh1, Fh1⟩
    show jt_T 201 (55, [(0, .inr (.inr (4, 0, 0))), (1, .inl (nI n)), (2, .inl (nI w)), (3, .inl (nI ((sp_tog g k).1))), (4, .inl (jo (sp_tog g k).2)), (5, .inl (nI (k + 1)))], [.inl (nI (sp_set (sp_it g k) false))], h1) _
    have Rh1 : jg_rel h1 1 (sp_it g (k + 1)) := Rh1
    have Wh1 := (jw_it W (k + 1)).1
    have uh1 := sp_set_lt Wk (kept := false)
    have Fh1 := jg_fr_tr Fm Fh1
    refine jt_go jm_m201 30 2 (f' := (59, [(6, .inl (nI (sp_set (sp_it g k) false))), (0, .inr (.inr (4, 0, 0))), (1, .inl (nI n)), (2, .inl (nI w)), (3, .inl (nI ((sp_tog g k).1))), (4, .inl (jo (sp_tog g k).2)), (5, .inl (nI (k + 1)))], [.inl (nI (sp_set (sp_it g k) false))], h1)) (P := True) rfl trivial ?_
    refine jt_callp (w := .inl (nI (sp_cnt (sp_set (sp_it g k) false)))) jm_m201 32 (mi' := 153) (as := [.inl (nI (sp_set (sp_it g k) false))]) (rest := []) (nxt := 62) rfl rfl jm_m153 rfl rfl (tb_bits (by omega)) ?_
    have bq2 := sp_cnt_le (sp_set (sp_it g k) false) (by omega)
    refine jt_go jm_m201 33 1 (f' := (63, [(6, .inl (nI (sp_set (sp_it g k) false))), (0, .inr (.inr (4, 0, 0))), (1, .inl (nI n)), (2, .inl (nI w)), (3, .inl (nI ((sp_tog g k).1))), (4, .inl (jo (sp_tog g k).2)), (5, .inl (nI (k + 1)))], [.inl (nI ((sp_tog g k).1)), .inl (nI (sp_cnt (sp_set (sp_it g k) false)))], h1)) (P := True) rfl trivial ?_
    refine jt_callp (w := .inl (nI (sp_cnt ((sp_tog g k).1)))) jm_m201 34 (mi' := 153) (as := [.inl (nI ((sp_tog g k).1))]) (rest := [.inl (nI (sp_cnt (sp_set (sp_it g k) false)))]) (nxt := 66) rfl rfl jm_m153 rfl rfl (tb_bits (by omega)) ?_
    have bq3 := sp_cnt_le ((sp_tog g k).1) (by omega)
    refine jt_nicgt jm_m201 35 (a := sp_cnt (sp_set (sp_it g k) false)) (b := sp_cnt ((sp_tog g k).1)) (by omega) (by omega) (tgt := 72) (nxt := 69) rfl rfl rfl (fun c66 => ?_) (fun c66 => ?_)
    · refine jt_go jm_m201 37 4 (f' := (79, [(4, .inl (nI (k + 1))), (3, .inl (nI (sp_set (sp_it g k) false))), (6, .inl (nI (sp_set (sp_it g k) false))), (0, .inr (.inr (4, 0, 0))), (1, .inl (nI n)), (2, .inl (nI w)), (5, .inl (nI (k + 1)))], [], h1)) (P := True) rfl trivial ?_
      refine jt_inc jm_m201 41 (c := k + 1) (L' := [(5, .inl (nI (k + 1 + 1))), (4, .inl (nI (k + 1))), (3, .inl (nI (sp_set (sp_it g k) false))), (6, .inl (nI (sp_set (sp_it g k) false))), (0, .inr (.inr (4, 0, 0))), (1, .inl (nI n)), (2, .inl (nI w))]) rfl rfl rfl rfl ?_
      refine jt_go jm_m201 42 1 (f' := (41, [(5, .inl (nI (k + 1 + 1))), (4, .inl (nI (k + 1))), (3, .inl (nI (sp_set (sp_it g k) false))), (6, .inl (nI (sp_set (sp_it g k) false))), (0, .inr (.inr (4, 0, 0))), (1, .inl (nI n)), (2, .inl (nI w))], [], h1)) (P := True) rfl trivial ?_
      refine jt_pick (L' := [(0, .inr (.inr (4, 0, 0))), (1, .inl (nI n)), (2, .inl (nI w)), (3, .inl (nI (sp_set (sp_it g k) false))), (4, .inl (nI (k + 1))), (5, .inl (nI (k + 1 + 1)))]) [4, 5, 6, 2, 1, 0] rfl ?_
      have e : sp_tog g (k + 1) = (sp_set (sp_it g k) false, some (k + 1)) := if_pos (by omega)
      have q := nx (by omega) h1 Rh1 Fh1
      rw [e] at q
      exact q
    · refine jt_go jm_m201 36 1 (f' := (79, [(6, .inl (nI (sp_set (sp_it g k) false))), (0, .inr (.inr (4, 0, 0))), (1, .inl (nI n)), (2, .inl (nI w)), (3, .inl (nI ((sp_tog g k).1))), (4, .inl (jo (sp_tog g k).2)), (5, .inl (nI (k + 1)))], [], h1)) (P := True) rfl trivial ?_
      refine jt_inc jm_m201 41 (c := k + 1) (L' := [(5, .inl (nI (k + 1 + 1))), (6, .inl (nI (sp_set (sp_it g k) false))), (0, .inr (.inr (4, 0, 0))), (1, .inl (nI n)), (2, .inl (nI w)), (3, .inl (nI ((sp_tog g k).1))), (4, .inl (jo (sp_tog g k).2))]) rfl rfl rfl rfl ?_
      refine jt_go jm_m201 42 1 (f' := (41, [(5, .inl (nI (k + 1 + 1))), (6, .inl (nI (sp_set (sp_it g k) false))), (0, .inr (.inr (4, 0, 0))), (1, .inl (nI n)), (2, .inl (nI w)), (3, .inl (nI ((sp_tog g k).1))), (4, .inl (jo (sp_tog g k).2))], [], h1)) (P := True) rfl trivial ?_
      refine jt_pick (L' := [(0, .inr (.inr (4, 0, 0))), (1, .inl (nI n)), (2, .inl (nI w)), (3, .inl (nI ((sp_tog g k).1))), (4, .inl (jo (sp_tog g k).2)), (5, .inl (nI (k + 1 + 1)))]) [2, 3, 4, 5, 6, 0] rfl ?_
      have e : sp_tog g (k + 1) = sp_tog g k := if_neg (by omega)
      have q := nx (by omega) h1 Rh1 Fh1
      rw [e] at q
      exact q)
def zb_together (g : Nat → Nat) (n w : Nat) : Int32 := if w = 0 then nI (sp_tog g n).1 else if w = 1 then nI (sp_cnt (sp_tog g n).1) else jo (sp_tog g n).2
def za_together (g : Nat → Nat) (x y : Int32) : Int32 := if (nI 0 ≤ x ∧ x ≤ nI 99) ∧ (nI 0 ≤ y ∧ y ≤ nI 2) then zb_together g x.toNatClampNeg y.toNatClampNeg else (-1)
set_option maxHeartbeats 4000000 in
set_option maxRecDepth 20000 in
theorem ca_together {h : jm_M} {g : Nat → Nat} (R : jf_rel h 0 g) (W : jw g) {x y : Int32} : jt_T 96 (0, [(0, .inr (.inr (0, 0, 0))), (1, .inl (x)), (2, .inl (y))], [], h) (fun u h' => u = some (.inl (za_together g x y)) ∧ jf_fr 1 h h') := by
  have bn := jw_n W
  have bm := jw_m W
  have bt := jw_t W
  refine jt_go jm_m96 0 1 (f' := (1, [(0, .inr (.inr (0, 0, 0))), (1, .inl (x)), (2, .inl (y))], [.inl (x)], h)) (P := True) rfl trivial ?_
  refine jt_callp (w := .inl (jm_b (nI 0 ≤ x ∧ x ≤ nI 99))) jm_m96 1 (mi' := 141) (as := [.inl (x)]) (rest := []) (nxt := 4) rfl rfl jm_m141 rfl rfl (ta_ahead) ?_
  refine jt_ifbeq jm_m96 2 (tgt := 16) (nxt := 7) rfl rfl rfl (fun c4 => ?_) (fun c4 => ?_)
  · refine jt_go jm_m96 8 1 (f' := (17, [(0, .inr (.inr (0, 0, 0))), (1, .inl (x)), (2, .inl (y))], [.inl ((-1))], h)) (P := True) rfl trivial ?_
    refine jt_iret jm_m96 9 rfl ?_
    exact ⟨jt_li (if_neg (fun z => c4 z.1)).symm, jf_fr_rf⟩
  · obtain ⟨n, hbn, rfl⟩ := jx_win (by decide) c4
    refine jt_go jm_m96 3 3 (f' := (10, [(0, .inr (.inr (0, 0, 0))), (1, .inl (nI n)), (2, .inl (y))], [.inl (nI 2), .inl (nI 0), .inl (y)], h)) (P := True) rfl trivial ?_
    refine jt_callp (w := .inl (jm_b (nI 0 ≤ y ∧ y ≤ nI 2))) jm_m96 6 (mi' := 136) (as := [.inl (y), .inl (nI 0), .inl (nI 2)]) (rest := []) (nxt := 13) rfl rfl jm_m136 rfl rfl (ta_within) ?_
    refine jt_ifbne jm_m96 7 (tgt := 18) (nxt := 16) rfl rfl rfl (fun c13 => ?_) (fun c13 => ?_)
    · obtain ⟨w, hbw, rfl⟩ := jx_win (by decide) c13
      refine jt_go jm_m96 10 4 (f' := (26, [(0, .inr (.inr (0, 0, 0))), (1, .inl (nI n)), (2, .inl (nI w))], [.inr (.inr (2, 0, 0)), .inr (.inr (2, 1, 0))], h)) (P := True) rfl trivial ?_
      refine jt_call jm_m96 14 (mi' := 6) (as := [.inr (.inr (2, 1, 0)), .inr (.inr (2, 0, 0))]) (rest := []) (nxt := 29) rfl rfl jm_m6 rfl rfl (ta_becomes R W (by decide)) ?_
      rintro u h1 ⟨rfl, Rh1, Fh1⟩
      show jt_T 96 (29, [(0, .inr (.inr (0, 0, 0))), (1, .inl (nI n)), (2, .inl (nI w))], [], h1) _
      have Rh1 : jf_rel h1 1 g := Rh1
      have Wh1 : jw (g) := W
      have Zh1 := jf_mov0 R Fh1
      refine jt_go jm_m96 15 6 (f' := (38, [(5, .inl (nI 1)), (4, .inl ((-4))), (3, .inl (nI 0)), (0, .inr (.inr (0, 0, 0))), (1, .inl (nI n)), (2, .inl (nI w))], [], h1)) (P := True) rfl trivial ?_
      refine jt_pick (L' := [(0, .inr (.inr (0, 0, 0))), (1, .inl (nI n)), (2, .inl (nI w)), (3, .inl (nI 0)), (4, .inl ((-4))), (5, .inl (nI 1))]) [3, 4, 5, 2, 1, 0] rfl ?_
      refine jt_mono (ca_tog_l (h := h1) W hbn hbw 0 (Nat.zero_le _) _ Rh1 jf_fr_rf) (fun u h2 zz => ⟨zz.1.trans (jt_li ?_), jf_fr_tr Fh1 zz.2⟩)
      unfold za_together
      refine Eq.trans ?_ (if_pos ⟨c4, c13⟩).symm
      rw [nI_clamp (n := n) (by omega), nI_clamp (n := w) (by omega)]
      unfold zb_together
      first | done | rfl
    · refine jt_go jm_m96 8 1 (f' := (17, [(0, .inr (.inr (0, 0, 0))), (1, .inl (nI n)), (2, .inl (y))], [.inl ((-1))], h)) (P := True) rfl trivial ?_
      refine jt_iret jm_m96 9 rfl ?_
      exact ⟨jt_li (if_neg (fun z => c13 z.2)).symm, jf_fr_rf⟩
set_option maxHeartbeats 4000000 in
set_option maxRecDepth 20000 in
theorem cb_together {h : jm_M} {g : Nat → Nat} (R : jg_rel h 0 g) (W : jw g) {x y : Int32} : jt_T 201 (0, [(0, .inr (.inr (4, 0, 0))), (1, .inl (x)), (2, .inl (y))], [], h) (fun u h' => u = some (.inl (za_together g x y)) ∧ jg_fr 1 h h') := by
  have bn := jw_n W
  have bm := jw_m W
  have bt := jw_t W
  refine jt_go jm_m201 0 3 (f' := (4, [(0, .inr (.inr (4, 0, 0))), (1, .inl (x)), (2, .inl (y))], [.inl (nI 99), .inl (nI 0), .inl (x)], h)) (P := True) rfl trivial ?_
  refine jt_callp (w := .inl (jm_b (nI 0 ≤ x ∧ x ≤ nI 99))) jm_m201 3 (mi' := 143) (as := [.inl (x), .inl (nI 0), .inl (nI 99)]) (rest := []) (nxt := 7) rfl rfl jm_m143 rfl rfl (tb_isIn) ?_
  refine jt_ifbeq jm_m201 4 (tgt := 19) (nxt := 10) rfl rfl rfl (fun c7 => ?_) (fun c7 => ?_)
  · refine jt_go jm_m201 10 1 (f' := (20, [(0, .inr (.inr (4, 0, 0))), (1, .inl (x)), (2, .inl (y))], [.inl ((-1))], h)) (P := True) rfl trivial ?_
    refine jt_iret jm_m201 11 rfl ?_
    exact ⟨jt_li (if_neg (fun z => c7 z.1)).symm, jg_fr_rf⟩
  · obtain ⟨n, hbn, rfl⟩ := jx_win (by decide) c7
    refine jt_go jm_m201 5 3 (f' := (13, [(0, .inr (.inr (4, 0, 0))), (1, .inl (nI n)), (2, .inl (y))], [.inl (nI 2), .inl (nI 0), .inl (y)], h)) (P := True) rfl trivial ?_
    refine jt_callp (w := .inl (jm_b (nI 0 ≤ y ∧ y ≤ nI 2))) jm_m201 8 (mi' := 143) (as := [.inl (y), .inl (nI 0), .inl (nI 2)]) (rest := []) (nxt := 16) rfl rfl jm_m143 rfl rfl (tb_isIn) ?_
    refine jt_ifbne jm_m201 9 (tgt := 21) (nxt := 19) rfl rfl rfl (fun c16 => ?_) (fun c16 => ?_)
    · obtain ⟨w, hbw, rfl⟩ := jx_win (by decide) c16
      refine jt_go jm_m201 12 4 (f' := (29, [(0, .inr (.inr (4, 0, 0))), (1, .inl (nI n)), (2, .inl (nI w))], [.inr (.inr (5, 1, 0)), .inr (.inr (5, 0, 0))], h)) (P := True) rfl trivial ?_
      refine jt_call jm_m201 16 (mi' := 146) (as := [.inr (.inr (5, 0, 0)), .inr (.inr (5, 1, 0))]) (rest := []) (nxt := 32) rfl rfl jm_m146 rfl rfl (tb_copies R (by decide)) ?_
      rintro u h1 ⟨rfl, Rh1, Fh1⟩
      show jt_T 201 (32, [(0, .inr (.inr (4, 0, 0))), (1, .inl (nI n)), (2, .inl (nI w))], [], h1) _
      have Rh1 : jg_rel h1 1 g := Rh1
      have Wh1 : jw (g) := W
      have Zh1 := jg_mov0 R Fh1
      refine jt_go jm_m201 17 6 (f' := (41, [(5, .inl (nI 1)), (4, .inl ((-4))), (3, .inl (nI 0)), (0, .inr (.inr (4, 0, 0))), (1, .inl (nI n)), (2, .inl (nI w))], [], h1)) (P := True) rfl trivial ?_
      refine jt_pick (L' := [(0, .inr (.inr (4, 0, 0))), (1, .inl (nI n)), (2, .inl (nI w)), (3, .inl (nI 0)), (4, .inl ((-4))), (5, .inl (nI 1))]) [3, 4, 5, 2, 1, 0] rfl ?_
      refine jt_mono (cb_tog_l (h := h1) W hbn hbw 0 (Nat.zero_le _) _ Rh1 jg_fr_rf) (fun u h2 zz => ⟨zz.1.trans (jt_li ?_), jg_fr_tr Fh1 zz.2⟩)
      unfold za_together
      refine Eq.trans ?_ (if_pos ⟨c7, c16⟩).symm
      rw [nI_clamp (n := n) (by omega), nI_clamp (n := w) (by omega)]
      unfold zb_together
      first | done | rfl
    · refine jt_go jm_m201 10 1 (f' := (20, [(0, .inr (.inr (4, 0, 0))), (1, .inl (nI n)), (2, .inl (y))], [.inl ((-1))], h)) (P := True) rfl trivial ?_
      refine jt_iret jm_m201 11 rfl ?_
      exact ⟨jt_li (if_neg (fun z => c16 z.2)).symm, jg_fr_rf⟩
