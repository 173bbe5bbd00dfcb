/-! THE FACE: the image; count of the reference. -/
theorem jx_w36 : ∀ a : Nat, a < 7 → nI 0 ≤ nI a ∧ nI a ≤ nI 6 := by decide +kernel
theorem jx_w3 {x : Int32} (h : ¬ (nI 0 ≤ x ∧ x ≤ nI 3)) (h4 : ¬ x = nI 4) (h5 : ¬ x = nI 5) (h6 : ¬ x = nI 6) : ¬ (nI 0 ≤ x ∧ x ≤ nI 6) := by
  refine jx_nwin (by decide) (fun j hj => ?_)
  rcases (show j = 0 ∨ j = 1 ∨ j = 2 ∨ j = 3 ∨ j = 4 ∨ j = 5 ∨ j = 6 by omega) with rfl | rfl | rfl | rfl | rfl | rfl | rfl
  · intro e; exact h (by rw [e]; decide +kernel)
  · intro e; exact h (by rw [e]; decide +kernel)
  · intro e; exact h (by rw [e]; decide +kernel)
  · intro e; exact h (by rw [e]; decide +kernel)
  · exact h4
  · exact h5
  · exact h6
set_option maxHeartbeats 4000000 in
set_option maxRecDepth 20000 in
theorem cb_count_l {h : jm_M} {g : Nat → Nat} (R : jg_rel h 0 g) (W : jw g) {x : Int32} : ∀ k, k ≤ g 0 → jt_T 225 (62, [(0, .inr (.inr (4, 0, 0))), (1, .inl (x)), (2, .inl (nI (sp_bits (fun c => decide (sp_read g c)) k))), (3, .inl (nI k))], [], h) (fun u h' => u = some (.inl (nI (sp_bits (fun c => decide (sp_read g c)) (g 0)))) ∧ h' = h) := jx_up (fun k hk nx => by
  have bn := jw_n W
  have bm := jw_m W
  have bt := jw_t W
  have bs := sp_bits_lt (fun c => decide (sp_read g c)) k
  refine jt_go jm_m225 24 5 (f' := (69, [(0, .inr (.inr (4, 0, 0))), (1, .inl (x)), (2, .inl (nI (sp_bits (fun c => decide (sp_read g c)) k))), (3, .inl (nI k))], [.inl (h (5, 0, 0) (nI 0).toNatClampNeg), .inl (nI k)], h)) (P := vp_in (nI 0) 78 ∧ True) rfl ⟨(vp_in_nI (by omega) (by decide)), trivial⟩ ?_
  refine jt_ti (show (h (5, 0, 0) (nI 0).toNatClampNeg) = nI (g 0) from jg_get R (k := 0) (nI_clamp (by omega)) (by omega)) ?_
  have bq1 := jw_n W
  refine jt_nicge jm_m225 29 (a := k) (b := g 0) (by omega) (by omega) (tgt := 99) (nxt := 72) rfl rfl rfl (fun c69 => ?_) (fun c69 => ?_)
  · refine jt_go jm_m225 45 1 (f' := (100, [(0, .inr (.inr (4, 0, 0))), (1, .inl (x)), (2, .inl (nI (sp_bits (fun c => decide (sp_read g c)) k))), (3, .inl (nI k))], [.inl (nI (sp_bits (fun c => decide (sp_read g c)) k))], h)) (P := True) rfl trivial ?_
    refine jt_iret jm_m225 46 rfl ?_
    have e : k = g 0 := by omega
    subst e
    exact ⟨rfl, rfl⟩
  · refine jt_go jm_m225 30 4 (f' := (78, [(0, .inr (.inr (4, 0, 0))), (1, .inl (x)), (2, .inl (nI (sp_bits (fun c => decide (sp_read g c)) k))), (3, .inl (nI k))], [.inl (nI k), .inr (.inr (5, 0, 0)), .inl (nI (sp_bits (fun c => decide (sp_read g c)) k))], h)) (P := True) rfl trivial ?_
    refine jt_callp (w := .inl (jm_b (sp_read g k))) jm_m225 34 (mi' := 160) (as := [.inr (.inr (5, 0, 0)), .inl (nI k)]) (rest := [.inl (nI (sp_bits (fun c => decide (sp_read g c)) k))]) (nxt := 81) rfl rfl jm_m160 rfl rfl (tb_read R W (by omega)) ?_
    refine jt_ifbeq jm_m225 35 (tgt := 90) (nxt := 84) rfl rfl rfl (fun c81 => ?_) (fun c81 => ?_)
    · refine jt_go jm_m225 40 2 (f' := (92, [(0, .inr (.inr (4, 0, 0))), (1, .inl (x)), (2, .inl (nI (sp_bits (fun c => decide (sp_read g c)) k))), (3, .inl (nI k))], [.inl ((nI (sp_bits (fun c => decide (sp_read g c)) k)) ||| (nI 0))], h)) (P := True) rfl trivial ?_
      refine jt_ti (show ((nI (sp_bits (fun c => decide (sp_read g c)) k)) ||| (nI 0)) = nI (sp_bits (fun c => decide (sp_read g c)) k) from jx_or0 _) ?_
      refine jt_go jm_m225 42 1 (f' := (93, [(2, .inl (nI (sp_bits (fun c => decide (sp_read g c)) k))), (0, .inr (.inr (4, 0, 0))), (1, .inl (x)), (3, .inl (nI k))], [], h)) (P := True) rfl trivial ?_
      refine jt_inc jm_m225 43 (c := k) (L' := [(3, .inl (nI (k + 1))), (2, .inl (nI (sp_bits (fun c => decide (sp_read g c)) k))), (0, .inr (.inr (4, 0, 0))), (1, .inl (x))]) rfl rfl rfl rfl ?_
      refine jt_go jm_m225 44 1 (f' := (62, [(3, .inl (nI (k + 1))), (2, .inl (nI (sp_bits (fun c => decide (sp_read g c)) k))), (0, .inr (.inr (4, 0, 0))), (1, .inl (x))], [], h)) (P := True) rfl trivial ?_
      refine jt_pick (L' := [(0, .inr (.inr (4, 0, 0))), (1, .inl (x)), (2, .inl (nI (sp_bits (fun c => decide (sp_read g c)) k))), (3, .inl (nI (k + 1)))]) [2, 3, 1, 0] rfl ?_
      have e : sp_bits (fun c => decide (sp_read g c)) (k + 1) = sp_bits (fun c => decide (sp_read g c)) k := if_neg (fun z => c81 (of_decide_eq_true z))
      have q := nx (by omega)
      rw [e] at q
      exact q
    · refine jt_go jm_m225 36 4 (f' := (91, [(0, .inr (.inr (4, 0, 0))), (1, .inl (x)), (2, .inl (nI (sp_bits (fun c => decide (sp_read g c)) k))), (3, .inl (nI k))], [.inl ((nI 1) <<< ((nI k) &&& 31)), .inl (nI (sp_bits (fun c => decide (sp_read g c)) k))], h)) (P := True) rfl trivial ?_
      refine jt_go jm_m225 41 1 (f' := (92, [(0, .inr (.inr (4, 0, 0))), (1, .inl (x)), (2, .inl (nI (sp_bits (fun c => decide (sp_read g c)) k))), (3, .inl (nI k))], [.inl ((nI (sp_bits (fun c => decide (sp_read g c)) k)) ||| ((nI 1) <<< ((nI k) &&& 31)))], h)) (P := True) rfl trivial ?_
      refine jt_ti (show ((nI (sp_bits (fun c => decide (sp_read g c)) k)) ||| ((nI 1) <<< ((nI k) &&& 31))) = nI (sp_bits (fun c => decide (sp_read g c)) k + 2 ^ k) from jx_orb _ (by have := jx_p32 (c := k) (by omega); omega) _ (by omega) (by rw [Nat.div_eq_of_lt bs])) ?_
      refine jt_go jm_m225 42 1 (f' := (93, [(2, .inl (nI (sp_bits (fun c => decide (sp_read g c)) k + 2 ^ k))), (0, .inr (.inr (4, 0, 0))), (1, .inl (x)), (3, .inl (nI k))], [], h)) (P := True) rfl trivial ?_
      refine jt_inc jm_m225 43 (c := k) (L' := [(3, .inl (nI (k + 1))), (2, .inl (nI (sp_bits (fun c => decide (sp_read g c)) k + 2 ^ k))), (0, .inr (.inr (4, 0, 0))), (1, .inl (x))]) rfl rfl rfl rfl ?_
      refine jt_go jm_m225 44 1 (f' := (62, [(3, .inl (nI (k + 1))), (2, .inl (nI (sp_bits (fun c => decide (sp_read g c)) k + 2 ^ k))), (0, .inr (.inr (4, 0, 0))), (1, .inl (x))], [], h)) (P := True) rfl trivial ?_
      refine jt_pick (L' := [(0, .inr (.inr (4, 0, 0))), (1, .inl (x)), (2, .inl (nI (sp_bits (fun c => decide (sp_read g c)) k + 2 ^ k))), (3, .inl (nI (k + 1)))]) [2, 3, 1, 0] rfl ?_
      have e : sp_bits (fun c => decide (sp_read g c)) (k + 1) = sp_bits (fun c => decide (sp_read g c)) k + 2 ^ k := if_pos (decide_eq_true c81)
      have q := nx (by omega)
      rw [e] at q
      exact q)
set_option maxHeartbeats 4000000 in
set_option maxRecDepth 20000 in
theorem cb_count {h : jm_M} {g : Nat → Nat} (R : jg_rel h 0 g) (W : jw g) {x : Int32} : jt_T 225 (0, [(0, .inr (.inr (4, 0, 0))), (1, .inl (x))], [], h) (fun u h' => u = some (.inl (za_count g x)) ∧ jg_fr 1 h h') := by
  have bn := jw_n W
  have bm := jw_m W
  have bt := jw_t W
  refine jt_go jm_m225 0 3 (f' := (3, [(0, .inr (.inr (4, 0, 0))), (1, .inl (x))], [.inl (nI 3), .inl (nI 0), .inl (x)], h)) (P := True) rfl trivial ?_
  refine jt_callp (w := .inl (jm_b (nI 0 ≤ x ∧ x ≤ nI 3))) jm_m225 3 (mi' := 143) (as := [.inl (x), .inl (nI 0), .inl (nI 3)]) (rest := []) (nxt := 6) rfl rfl jm_m143 rfl rfl (tb_isIn) ?_
  refine jt_ifbeq jm_m225 4 (tgt := 16) (nxt := 9) rfl rfl rfl (fun c6 => ?_) (fun c6 => ?_)
  · refine jt_go jm_m225 10 3 (f' := (19, [(2, .inl (nI 0)), (0, .inr (.inr (4, 0, 0))), (1, .inl (x))], [.inl (x)], h)) (P := True) rfl trivial ?_
    refine jt_ts jm_m225 13 rfl ⟨fun d0 => ?_, fun d0 => ⟨fun d1 => ?_, fun d1 => ⟨fun d2 => ?_, fun d2 => ?_⟩⟩⟩
    · have d0 : x = nI 4 := d0
      show jt_T 225 (44, [(2, .inl (nI 0)), (0, .inr (.inr (4, 0, 0))), (1, .inl (x))], [], h) _
      refine jt_go jm_m225 14 2 (f' := (48, [(2, .inl (nI 0)), (0, .inr (.inr (4, 0, 0))), (1, .inl (x))], [.inr (.inr (5, 0, 0))], h)) (P := True) rfl trivial ?_
      refine jt_callp (w := .inl (nI (sp_pb g))) jm_m225 16 (mi' := 165) (as := [.inr (.inr (5, 0, 0))]) (rest := []) (nxt := 51) rfl rfl jm_m165 rfl rfl (tb_passed R W) ?_
      have bq1 := jw_pb W
      refine jt_iret jm_m225 17 rfl ?_
      subst d0
      refine ⟨jt_li ?_, jg_fr_rf⟩
      unfold za_count
      refine Eq.trans ?_ (if_pos (jx_w36 4 (by decide))).symm
      rw [nI_clamp (by decide)]
      unfold zb_count
      rfl
    · have d1 : x = nI 5 := d1
      show jt_T 225 (52, [(2, .inl (nI 0)), (0, .inr (.inr (4, 0, 0))), (1, .inl (x))], [], h) _
      refine jt_go jm_m225 18 2 (f' := (56, [(2, .inl (nI 0)), (0, .inr (.inr (4, 0, 0))), (1, .inl (x))], [.inr (.inr (5, 0, 0))], h)) (P := True) rfl trivial ?_
      refine jt_callp (w := .inl (nI (sp_sum (fun p => g (4 + p)) 16))) jm_m225 20 (mi' := 187) (as := [.inr (.inr (5, 0, 0))]) (rest := []) (nxt := 59) rfl rfl jm_m187 rfl rfl (tb_fish R W) ?_
      refine jt_iret jm_m225 21 rfl ?_
      subst d1
      refine ⟨jt_li ?_, jg_fr_rf⟩
      unfold za_count
      refine Eq.trans ?_ (if_pos (jx_w36 5 (by decide))).symm
      rw [nI_clamp (by decide)]
      unfold zb_count
      rfl
    · have d2 : x = nI 6 := d2
      show jt_T 225 (60, [(2, .inl (nI 0)), (0, .inr (.inr (4, 0, 0))), (1, .inl (x))], [], h) _
      refine jt_go jm_m225 22 2 (f' := (62, [(3, .inl (nI 0)), (2, .inl (nI 0)), (0, .inr (.inr (4, 0, 0))), (1, .inl (x))], [], h)) (P := True) rfl trivial ?_
      refine jt_pick (L' := [(0, .inr (.inr (4, 0, 0))), (1, .inl (x)), (2, .inl (nI 0)), (3, .inl (nI 0))]) [2, 3, 1, 0] rfl ?_
      refine jt_mono (cb_count_l R W 0 (Nat.zero_le _)) (fun u h2 zz => ?_)
      obtain ⟨z1, z2⟩ := zz
      rw [z2]
      refine ⟨z1.trans (jt_li ?_), jg_fr_rf⟩
      subst d2
      unfold za_count
      refine Eq.trans ?_ (if_pos (jx_w36 6 (by decide))).symm
      rw [nI_clamp (by decide)]
      unfold zb_count
      rfl
    · show jt_T 225 (101, [(2, .inl (nI 0)), (0, .inr (.inr (4, 0, 0))), (1, .inl (x))], [], h) _
      refine jt_go jm_m225 47 1 (f' := (102, [(2, .inl (nI 0)), (0, .inr (.inr (4, 0, 0))), (1, .inl (x))], [.inl ((-1))], h)) (P := True) rfl trivial ?_
      refine jt_iret jm_m225 48 rfl ?_
      exact ⟨jt_li (if_neg (jx_w3 c6 d0 d1 d2)).symm, jg_fr_rf⟩
  · obtain ⟨w, hw, rfl⟩ := jx_win (by decide) c6
    show jt_T 225 (9, [(0, .inr (.inr (4, 0, 0))), (1, .inl (nI w))], [], h) _
    refine jt_go jm_m225 5 4 (f' := (15, [(0, .inr (.inr (4, 0, 0))), (1, .inl (nI w))], [.inl (h (5, 0, 0) (nI w).toNatClampNeg)], h)) (P := vp_in (nI w) 78 ∧ True) rfl ⟨(vp_in_nI (by omega) (by decide)), trivial⟩ ?_
    refine jt_ti (show (h (5, 0, 0) (nI w).toNatClampNeg) = nI (g (w)) from jg_get R (k := w) (nI_clamp (by omega)) (by omega)) ?_
    refine jt_iret jm_m225 9 rfl ?_
    refine ⟨jt_li ?_, jg_fr_rf⟩
    unfold za_count
    refine Eq.trans ?_ (if_pos (jx_w36 w (by omega))).symm
    rw [nI_clamp (by omega)]
    unfold zb_count
    rw [if_pos (by omega)]
def ji_fr (j : Nat) (h h' : jm_M) : Prop := ∀ k : jm_K, ¬ ((k.1 = 2 ∨ k.1 = 6) ∧ k.2.1 = j) → k ≠ (0, 0, 0) → h' k = h k
def ji_gr (a : Nat) (h h' : jm_M) : Prop := (∀ k : jm_K, k ≠ (5, a, 0) → k ≠ (4, 0, 0) → h' k = h k)
theorem jf_mv {h h2 : jm_M} {i j : Nat} {g : Nat → Nat} (R : jf_rel h i g) (F : jf_fr j h h2) (hij : ¬ i = j) : jf_rel h2 i g := jf_mov R (fun k hk => F k (fun z => hij (hk.2.symm.trans z.2)))
theorem jg_mv {h h2 : jm_M} {i j : Nat} {g : Nat → Nat} (R : jg_rel h i g) (F : jg_fr j h h2) (hij : ¬ i = j) : jg_rel h2 i g := fun q hq => by rw [F (5, i, 0) (fun e => hij (congrArg (fun z : jm_K => z.2.1) e))]; exact R q hq
set_option maxHeartbeats 4000000 in
set_option maxRecDepth 20000 in
theorem ca_image {h : jm_M} {g : Nat → Nat} (R : jf_rel h 0 g) (W : jw g) : jt_T 124 (0, [(0, .inr (.inr (0, 0, 0)))], [], h) (fun u h' => u = some (.inl (nI (g 3))) ∧ jf_rel h' 2 g ∧ h' (0, 0, 0) 4 = nI 1 ∧ ji_fr 2 h h') := by
  refine jt_go jm_m124 0 4 (f' := (8, [(0, .inr (.inr (0, 0, 0)))], [.inr (.inr (2, 0, 0)), .inr (.inr (2, 2, 0))], h)) (P := True) rfl trivial ?_
  refine jt_call jm_m124 4 (mi' := 6) (as := [.inr (.inr (2, 2, 0)), .inr (.inr (2, 0, 0))]) (rest := []) (nxt := 11) rfl rfl jm_m6 rfl rfl (ta_becomes R W (by decide)) ?_
  rintro u h1 ⟨rfl, Rh1, Fh1⟩
  show jt_T 124 (11, [(0, .inr (.inr (0, 0, 0)))], [], h1) _
  refine jt_goM jm_m124 5 3 (pc' := 16) (L' := [(0, .inr (.inr (0, 0, 0)))]) (st' := []) (m' := jm_set h1 (0, 0, 0) (upd (h1 (0, 0, 0)) 4 (nI 1))) (P := ((nI 1) = 0 ∨ (nI 1) = 1) ∧ True) rfl ⟨(by decide), trivial⟩ (fun h2 eh2 => ?_)
  refine jt_go jm_m124 8 3 (f' := (23, [(0, .inr (.inr (0, 0, 0)))], [.inl (h2 (2, 0, 0) 12)], h2)) (P := True) rfl trivial ?_
  refine jt_ti (show (h2 (2, 0, 0) 12) = nI (g 3) from by rw [eh2, jm_set_ne (by decide), Fh1 _ (by decide)]; exact jf_day R) ?_
  refine jt_iret jm_m124 11 rfl ?_
  refine ⟨rfl, jf_mov Rh1 (fun k hk => ?_), ?_, fun k a b => ?_⟩
  · rw [eh2]; exact jm_set_ne (fun e => by rw [e] at hk; exact absurd hk.1 (by decide))
  · rw [eh2, jm_set_eq, jx_eq]
  · rw [eh2, jm_set_ne b]; exact Fh1 k a
set_option maxHeartbeats 4000000 in
set_option maxRecDepth 20000 in
theorem ca_restore1 {h : jm_M} {gi : Nat → Nat} (I4 : h (0, 0, 0) 4 = nI 1) (R : jf_rel h 2 gi) (W : jw gi) : jt_T 125 (0, [(0, .inr (.inr (0, 0, 0)))], [], h) (fun u h' => u = some (.inl (nI (gi 3))) ∧ jf_rel h' 0 gi ∧ jf_fr 0 h h') := by
  refine jt_go jm_m125 0 2 (f' := (4, [(0, .inr (.inr (0, 0, 0)))], [.inl (h (0, 0, 0) 4)], h)) (P := True) rfl trivial ?_
  refine jt_ti (show (h (0, 0, 0) 4) = nI 1 from I4) ?_
  refine jt_nifne jm_m125 2 (by omega) (tgt := 10) (nxt := 7) rfl rfl rfl (fun c4 => ?_) (fun c4 => ?_)
  · refine jt_go jm_m125 5 4 (f' := (18, [(0, .inr (.inr (0, 0, 0)))], [.inr (.inr (2, 2, 0)), .inr (.inr (2, 0, 0))], h)) (P := True) rfl trivial ?_
    refine jt_call jm_m125 9 (mi' := 6) (as := [.inr (.inr (2, 0, 0)), .inr (.inr (2, 2, 0))]) (rest := []) (nxt := 21) rfl rfl jm_m6 rfl rfl (ta_becomes R W (by decide)) ?_
    rintro u h1 ⟨rfl, Rh1, Fh1⟩
    show jt_T 125 (21, [(0, .inr (.inr (0, 0, 0)))], [], h1) _
    refine jt_go jm_m125 10 3 (f' := (28, [(0, .inr (.inr (0, 0, 0)))], [.inl (h1 (2, 0, 0) 12)], h1)) (P := True) rfl trivial ?_
    refine jt_ti (show (h1 (2, 0, 0) 12) = nI (gi 3) from jf_day Rh1) ?_
    refine jt_iret jm_m125 13 rfl ?_
    exact ⟨rfl, Rh1, Fh1⟩
  · exact absurd c4 (by decide)
set_option maxHeartbeats 4000000 in
set_option maxRecDepth 20000 in
theorem ca_restore0 {h : jm_M} (I4 : h (0, 0, 0) 4 = nI 0) : jt_T 125 (0, [(0, .inr (.inr (0, 0, 0)))], [], h) (fun u h' => u = some (.inl (-3)) ∧ h' = h) := by
  refine jt_go jm_m125 0 2 (f' := (4, [(0, .inr (.inr (0, 0, 0)))], [.inl (h (0, 0, 0) 4)], h)) (P := True) rfl trivial ?_
  refine jt_ti (show (h (0, 0, 0) 4) = nI 0 from I4) ?_
  refine jt_nifne jm_m125 2 (by omega) (tgt := 10) (nxt := 7) rfl rfl rfl (fun c4 => ?_) (fun c4 => ?_)
  · exact absurd c4 (by decide)
  · refine jt_go jm_m125 3 1 (f' := (9, [(0, .inr (.inr (0, 0, 0)))], [.inl ((-3))], h)) (P := True) rfl trivial ?_
    refine jt_iret jm_m125 4 rfl ?_
    exact ⟨rfl, rfl⟩
set_option maxHeartbeats 4000000 in
set_option maxRecDepth 20000 in
theorem cb_image {h : jm_M} {g : Nat → Nat} (R : jg_rel h 0 g) : jt_T 223 (0, [(0, .inr (.inr (4, 0, 0)))], [], h) (fun u h' => u = some (.inl (nI (g 3))) ∧ jg_rel h' 2 g ∧ h' (4, 0, 0) 4 = nI 1 ∧ ji_gr 2 h h') := by
  refine jt_go jm_m223 0 4 (f' := (8, [(0, .inr (.inr (4, 0, 0)))], [.inr (.inr (5, 2, 0)), .inr (.inr (5, 0, 0))], h)) (P := True) rfl trivial ?_
  refine jt_call jm_m223 4 (mi' := 146) (as := [.inr (.inr (5, 0, 0)), .inr (.inr (5, 2, 0))]) (rest := []) (nxt := 11) rfl rfl jm_m146 rfl rfl (tb_copies R (by decide)) ?_
  rintro u h1 ⟨rfl, Rh1, Fh1⟩
  show jt_T 223 (11, [(0, .inr (.inr (4, 0, 0)))], [], h1) _
  refine jt_goM jm_m223 5 3 (pc' := 16) (L' := [(0, .inr (.inr (4, 0, 0)))]) (st' := []) (m' := jm_set h1 (4, 0, 0) (upd (h1 (4, 0, 0)) 4 (nI 1))) (P := ((nI 1) = 0 ∨ (nI 1) = 1) ∧ True) rfl ⟨(by decide), trivial⟩ (fun h2 eh2 => ?_)
  refine jt_go jm_m223 8 4 (f' := (22, [(0, .inr (.inr (4, 0, 0)))], [.inl (h2 (5, 0, 0) (nI 3).toNatClampNeg)], h2)) (P := vp_in (nI 3) 78 ∧ True) rfl ⟨(vp_in_nI (by omega) (by decide)), trivial⟩ ?_
  refine jt_ti (show (h2 (5, 0, 0) (nI 3).toNatClampNeg) = nI (g 3) from by rw [eh2, jm_set_ne (by decide), Fh1 _ (by decide)]; exact jg_get R (k := 3) (by decide) (by decide)) ?_
  refine jt_iret jm_m223 12 rfl ?_
  refine ⟨rfl, fun i hi => ?_, ?_, fun k a b => ?_⟩
  · rw [eh2, jm_set_ne (by decide)]; exact Rh1 i hi
  · rw [eh2, jm_set_eq, jx_eq]
  · rw [eh2, jm_set_ne b]; exact Fh1 k a
set_option maxHeartbeats 4000000 in
set_option maxRecDepth 20000 in
theorem cb_restore1 {h : jm_M} {gi : Nat → Nat} (I4 : h (4, 0, 0) 4 = nI 1) (R : jg_rel h 2 gi) : jt_T 224 (0, [(0, .inr (.inr (4, 0, 0)))], [], h) (fun u h' => u = some (.inl (nI (gi 3))) ∧ jg_rel h' 0 gi ∧ jg_fr 0 h h') := by
  refine jt_go jm_m224 0 2 (f' := (4, [(0, .inr (.inr (4, 0, 0)))], [.inl (h (4, 0, 0) 4)], h)) (P := True) rfl trivial ?_
  refine jt_ti (show (h (4, 0, 0) 4) = nI 1 from I4) ?_
  refine jt_nifne jm_m224 2 (by omega) (tgt := 10) (nxt := 7) rfl rfl rfl (fun c4 => ?_) (fun c4 => ?_)
  · refine jt_go jm_m224 5 4 (f' := (18, [(0, .inr (.inr (4, 0, 0)))], [.inr (.inr (5, 0, 0)), .inr (.inr (5, 2, 0))], h)) (P := True) rfl trivial ?_
    refine jt_call jm_m224 9 (mi' := 146) (as := [.inr (.inr (5, 2, 0)), .inr (.inr (5, 0, 0))]) (rest := []) (nxt := 21) rfl rfl jm_m146 rfl rfl (tb_copies R (by decide)) ?_
    rintro u h1 ⟨rfl, Rh1, Fh1⟩
    show jt_T 224 (21, [(0, .inr (.inr (4, 0, 0)))], [], h1) _
    refine jt_go jm_m224 10 4 (f' := (27, [(0, .inr (.inr (4, 0, 0)))], [.inl (h1 (5, 0, 0) (nI 3).toNatClampNeg)], h1)) (P := vp_in (nI 3) 78 ∧ True) rfl ⟨(vp_in_nI (by omega) (by decide)), trivial⟩ ?_
    refine jt_ti (show (h1 (5, 0, 0) (nI 3).toNatClampNeg) = nI (gi 3) from jg_get Rh1 (k := 3) (by decide) (by decide)) ?_
    refine jt_iret jm_m224 14 rfl ?_
    exact ⟨rfl, Rh1, Fh1⟩
  · exact absurd c4 (by decide)
set_option maxHeartbeats 4000000 in
set_option maxRecDepth 20000 in
theorem cb_restore0 {h : jm_M} (I4 : h (4, 0, 0) 4 = nI 0) : jt_T 224 (0, [(0, .inr (.inr (4, 0, 0)))], [], h) (fun u h' => u = some (.inl (-3)) ∧ h' = h) := by
  refine jt_go jm_m224 0 2 (f' := (4, [(0, .inr (.inr (4, 0, 0)))], [.inl (h (4, 0, 0) 4)], h)) (P := True) rfl trivial ?_
  refine jt_ti (show (h (4, 0, 0) 4) = nI 0 from I4) ?_
  refine jt_nifne jm_m224 2 (by omega) (tgt := 10) (nxt := 7) rfl rfl rfl (fun c4 => ?_) (fun c4 => ?_)
  · exact absurd c4 (by decide)
  · refine jt_go jm_m224 3 1 (f' := (9, [(0, .inr (.inr (4, 0, 0)))], [.inl ((-3))], h)) (P := True) rfl trivial ?_
    refine jt_iret jm_m224 4 rfl ?_
    exact ⟨rfl, rfl⟩
