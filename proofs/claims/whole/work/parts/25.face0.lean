/-! THE FACE: frame of the observers; simple questions. -/
theorem jf_mov0 {h h2 : jm_M} {g : Nat → Nat} (R : jf_rel h 0 g) (F : jf_fr 1 h h2) : jf_rel h2 0 g := jf_mov R (fun k hk => F k (fun z => absurd (hk.2.symm.trans z.2) (by decide)))
theorem jg_mov0 {h h2 : jm_M} {g : Nat → Nat} (R : jg_rel h 0 g) (F : jg_fr 1 h h2) : jg_rel h2 0 g := fun i hi => by rw [F (5, 0, 0) (by decide)]; exact R i hi
theorem jx_win2 {x : Int32} {a n : Nat} (ha : a < 2 ^ 31) (hn : n < 2 ^ 31) (h : nI a ≤ x ∧ x ≤ nI n) : ∃ c : Nat, a ≤ c ∧ c ≤ n ∧ x = nI c := by
  have h1 := Int32.le_iff_toInt_le.mp h.1
  have h2 := Int32.le_iff_toInt_le.mp h.2
  rw [nI_toInt ha] at h1
  rw [nI_toInt hn] at h2
  refine ⟨x.toInt.toNat, by omega, by omega, Int32.toInt_inj.mp ?_⟩
  rw [nI_toInt (by omega)]
  omega
theorem jx_nwin {x : Int32} {n : Nat} (hn : n < 2 ^ 31) (h : ∀ j, j ≤ n → ¬ x = nI j) : ¬ (nI 0 ≤ x ∧ x ≤ nI n) := by
  intro z
  obtain ⟨j, hj, e⟩ := jx_win hn z
  exact h j hj e
set_option maxHeartbeats 4000000 in
set_option maxRecDepth 20000 in
theorem ta_look {h : jm_M} {g : Nat → Nat} (R : jf_rel h 0 g) (W : jw g) {n : Nat} (hn : n < 2 ^ 31) : jt_T 132 (0, [(0, .inr (.inr (0, 0, 0))), (1, .inl (nI n))], [], h) (fun u h' => u = none ∧ jf_rel h' 1 (sp_it g n) ∧ jf_fr 1 h h') := by
  refine jt_go jm_m132 0 4 (f' := (8, [(0, .inr (.inr (0, 0, 0))), (1, .inl (nI n))], [.inr (.inr (2, 0, 0)), .inr (.inr (2, 1, 0))], h)) (P := True) rfl trivial ?_
  refine jt_call jm_m132 4 (mi' := 6) (as := [.inr (.inr (2, 1, 0)), .inr (.inr (2, 0, 0))]) (rest := []) (nxt := 11) rfl rfl jm_m6 rfl rfl (ta_becomes R W (by decide)) ?_
  rintro u h1 ⟨rfl, Rh1, Fh1⟩
  show jt_T 132 (11, [(0, .inr (.inr (0, 0, 0))), (1, .inl (nI n))], [], h1) _
  have Rh1 : jf_rel h1 1 g := Rh1
  have Wh1 : jw (g) := W
  have Zh1 := jf_mov0 R Fh1
  refine jt_go jm_m132 5 3 (f' := (16, [(0, .inr (.inr (0, 0, 0))), (1, .inl (nI n))], [.inl (nI n), .inr (.inr (2, 1, 0))], h1)) (P := True) rfl trivial ?_
  refine jt_call jm_m132 8 (mi' := 17) (as := [.inr (.inr (2, 1, 0)), .inl (nI n)]) (rest := []) (nxt := 19) rfl rfl jm_m17 rfl rfl (ta_goOn Rh1 Wh1 (by omega)) ?_
  rintro u h2 ⟨rfl, Rh2, Fh2⟩
  show jt_T 132 (19, [(0, .inr (.inr (0, 0, 0))), (1, .inl (nI n))], [], h2) _
  have Rh2 : jf_rel h2 1 (sp_it g n) := Rh2
  have Wh2 : jw (sp_it g n) := (jw_it Wh1 _).1
  have Zh2 := jf_mov0 Zh1 Fh2
  have Fh2 := jf_fr_tr Fh1 Fh2
  refine jt_vret jm_m132 9 rfl ?_
  exact ⟨rfl, Rh2, Fh2⟩
set_option maxHeartbeats 4000000 in
set_option maxRecDepth 20000 in
theorem tb_takes {h : jm_M} {g : Nat → Nat} (R : jg_rel h 0 g) (W : jw g) {n : Nat} (hn : n < 2 ^ 31) : jt_T 185 (0, [(0, .inr (.inr (4, 0, 0))), (1, .inl (nI n))], [], h) (fun u h' => u = none ∧ jg_rel h' 1 (sp_it g n) ∧ jg_fr 1 h h') := by
  refine jt_go jm_m185 0 4 (f' := (8, [(0, .inr (.inr (4, 0, 0))), (1, .inl (nI n))], [.inr (.inr (5, 1, 0)), .inr (.inr (5, 0, 0))], h)) (P := True) rfl trivial ?_
  refine jt_call jm_m185 4 (mi' := 146) (as := [.inr (.inr (5, 0, 0)), .inr (.inr (5, 1, 0))]) (rest := []) (nxt := 11) rfl rfl jm_m146 rfl rfl (tb_copies R (by decide)) ?_
  rintro u h1 ⟨rfl, Rh1, Fh1⟩
  show jt_T 185 (11, [(0, .inr (.inr (4, 0, 0))), (1, .inl (nI n))], [], h1) _
  have Rh1 : jg_rel h1 1 g := Rh1
  have Wh1 : jw (g) := W
  have Zh1 := jg_mov0 R Fh1
  refine jt_go jm_m185 5 3 (f' := (16, [(0, .inr (.inr (4, 0, 0))), (1, .inl (nI n))], [.inl (nI n), .inr (.inr (5, 1, 0))], h1)) (P := True) rfl trivial ?_
  refine jt_call jm_m185 8 (mi' := 164) (as := [.inr (.inr (5, 1, 0)), .inl (nI n)]) (rest := []) (nxt := 19) rfl rfl jm_m164 rfl rfl (tb_goOn Rh1 Wh1 (by omega)) ?_
  rintro u h2 ⟨rfl, Rh2, Fh2⟩
  show jt_T 185 (19, [(0, .inr (.inr (4, 0, 0))), (1, .inl (nI n))], [], h2) _
  have Rh2 : jg_rel h2 1 (sp_it g n) := Rh2
  have Wh2 : jw (sp_it g n) := (jw_it Wh1 _).1
  have Zh2 := jg_mov0 Zh1 Fh2
  have Fh2 := jg_fr_tr Fh1 Fh2
  refine jt_vret jm_m185 9 rfl ?_
  exact ⟨rfl, Rh2, Fh2⟩
def zb_man (g : Nat → Nat) (p w : Nat) : Int32 := if w = 0 then nI (g (66 + 2 * p)) else jm_b (g (67 + 2 * p) = 1)
def za_man (g : Nat → Nat) (x y : Int32) : Int32 := if (nI 0 ≤ x ∧ x < nI (g 1)) ∧ (nI 0 ≤ y ∧ y ≤ nI 1) then zb_man g x.toNatClampNeg y.toNatClampNeg else (-1)
set_option maxHeartbeats 4000000 in
set_option maxRecDepth 20000 in
theorem ca_man {h : jm_M} {g : Nat → Nat} (R : jf_rel h 0 g) (W : jw g) {x y : Int32} : jt_T 76 (0, [(0, .inr (.inr (0, 0, 0))), (1, .inl (x)), (2, .inl (y))], [], h) (fun u h' => u = some (.inl (za_man g x y)) ∧ jf_fr 1 h h') := by
  have bn := jw_n W
  have bm := jw_m W
  have bt := jw_t W
  refine jt_go jm_m76 0 3 (f' := (5, [(0, .inr (.inr (0, 0, 0))), (1, .inl (x)), (2, .inl (y))], [.inl (x), .inr (.inr (2, 0, 0))], h)) (P := True) rfl trivial ?_
  refine jt_callp (w := .inl (jm_b (nI 0 ≤ x ∧ x < nI (g 1)))) jm_m76 3 (mi' := 8) (as := [.inr (.inr (2, 0, 0)), .inl (x)]) (rest := []) (nxt := 8) rfl rfl jm_m8 rfl rfl (ta_hasMan R W) ?_
  refine jt_ifbne jm_m76 4 (tgt := 13) (nxt := 11) rfl rfl rfl (fun c8 => ?_) (fun c8 => ?_)
  · obtain ⟨p, hbp, rfl⟩ := jx_cat (by omega) c8
    refine jt_go jm_m76 7 1 (f' := (14, [(0, .inr (.inr (0, 0, 0))), (1, .inl (nI p)), (2, .inl (y))], [.inl (y)], h)) (P := True) rfl trivial ?_
    refine jt_ls jm_m76 8 rfl ⟨fun d0 => ?_, fun d0 => ⟨fun d1 => ?_, fun d1 => ?_⟩⟩
    · have d0 : y = nI 0 := d0
      show jt_T 76 (40, [(0, .inr (.inr (0, 0, 0))), (1, .inl (nI p)), (2, .inl (y))], [], h) _
      refine jt_go jm_m76 9 5 (f' := (49, [(0, .inr (.inr (0, 0, 0))), (1, .inl (nI p)), (2, .inl (y))], [.inl (h (2, 0, 6) (nI p).toNatClampNeg)], h)) (P := vp_in (nI p) 6 ∧ True) rfl ⟨(vp_in_nI (by omega) (by decide)), trivial⟩ ?_
      refine jt_ti (show (h (2, 0, 6) (nI p).toNatClampNeg) = nI (g (66 + 2 * p)) from jf_side R (c := p) (nI_clamp (by omega)) (by omega)) ?_
      have bq1 := jw_side W (c := p) (by omega)
      refine jt_iret jm_m76 14 rfl ?_
      subst d0
      refine ⟨jt_li ?_, jf_fr_rf⟩
      unfold za_man
      refine Eq.trans ?_ (if_pos ⟨c8, ⟨nI_pos' (by decide), (nI_leI (by decide) (by decide)).mpr (by decide)⟩⟩).symm
      rw [nI_clamp (n := p) (by omega), nI_clamp (n := 0) (by omega)]
      unfold zb_man
      (repeat' split) <;> first | done | rfl | (exfalso; omega) | exact (jm_b_pos (by assumption)).symm | exact (jm_b_neg (by assumption)).symm | exact congrArg (fun z => nI (g z)) (by omega) | exact congrArg nI (by omega) | (congr 1; omega)
    · have d1 : y = nI 1 := d1
      show jt_T 76 (50, [(0, .inr (.inr (0, 0, 0))), (1, .inl (nI p)), (2, .inl (y))], [], h) _
      refine jt_go jm_m76 15 3 (f' := (55, [(0, .inr (.inr (0, 0, 0))), (1, .inl (nI p)), (2, .inl (y))], [.inl (nI p), .inr (.inr (2, 0, 0))], h)) (P := True) rfl trivial ?_
      refine jt_callp (w := .inl (jm_b (g (67 + 2 * p) = 1))) jm_m76 18 (mi' := 10) (as := [.inr (.inr (2, 0, 0)), .inl (nI p)]) (rest := []) (nxt := 58) rfl rfl jm_m10 rfl rfl (ta_hasPassed R W (by omega)) ?_
      have bq2 := jw_pas W (c := p) (by omega)
      refine jt_ifbeq jm_m76 19 (tgt := 65) (nxt := 61) rfl rfl rfl (fun c58 => ?_) (fun c58 => ?_)
      · refine jt_go jm_m76 22 1 (f' := (66, [(0, .inr (.inr (0, 0, 0))), (1, .inl (nI p)), (2, .inl (y))], [.inl (nI 0)], h)) (P := True) rfl trivial ?_
        refine jt_iret jm_m76 23 rfl ?_
        subst d1
        refine ⟨jt_li ?_, jf_fr_rf⟩
        unfold za_man
        refine Eq.trans ?_ (if_pos ⟨c8, ⟨nI_pos' (by decide), (nI_leI (by decide) (by decide)).mpr (by decide)⟩⟩).symm
        rw [nI_clamp (n := p) (by omega), nI_clamp (n := 1) (by omega)]
        unfold zb_man
        (repeat' split) <;> first | done | rfl | (exfalso; omega) | exact (jm_b_pos (by assumption)).symm | exact (jm_b_neg (by assumption)).symm | exact congrArg (fun z => nI (g z)) (by omega) | exact congrArg nI (by omega) | (congr 1; omega)
      · refine jt_go jm_m76 20 2 (f' := (66, [(0, .inr (.inr (0, 0, 0))), (1, .inl (nI p)), (2, .inl (y))], [.inl (nI 1)], h)) (P := True) rfl trivial ?_
        refine jt_iret jm_m76 23 rfl ?_
        subst d1
        refine ⟨jt_li ?_, jf_fr_rf⟩
        unfold za_man
        refine Eq.trans ?_ (if_pos ⟨c8, ⟨nI_pos' (by decide), (nI_leI (by decide) (by decide)).mpr (by decide)⟩⟩).symm
        rw [nI_clamp (n := p) (by omega), nI_clamp (n := 1) (by omega)]
        unfold zb_man
        (repeat' split) <;> first | done | rfl | (exfalso; omega) | exact (jm_b_pos (by assumption)).symm | exact (jm_b_neg (by assumption)).symm | exact congrArg (fun z => nI (g z)) (by omega) | exact congrArg nI (by omega) | (congr 1; omega)
    · show jt_T 76 (67, [(0, .inr (.inr (0, 0, 0))), (1, .inl (nI p)), (2, .inl (y))], [], h) _
      refine jt_go jm_m76 24 1 (f' := (68, [(0, .inr (.inr (0, 0, 0))), (1, .inl (nI p)), (2, .inl (y))], [.inl ((-1))], h)) (P := True) rfl trivial ?_
      refine jt_iret jm_m76 25 rfl ?_
      exact ⟨jt_li (if_neg (fun z => jx_nwin (by decide) (fun j hj => by
        rcases (show j = 0 ∨ j = 1 by omega) with rfl | rfl
        · exact d0
        · exact d1) z.2)).symm, jf_fr_rf⟩
  · refine jt_go jm_m76 5 1 (f' := (12, [(0, .inr (.inr (0, 0, 0))), (1, .inl (x)), (2, .inl (y))], [.inl ((-1))], h)) (P := True) rfl trivial ?_
    refine jt_iret jm_m76 6 rfl ?_
    exact ⟨jt_li (if_neg (fun z => c8 z.1)).symm, jf_fr_rf⟩
set_option maxHeartbeats 4000000 in
set_option maxRecDepth 20000 in
theorem cb_man {h : jm_M} {g : Nat → Nat} (R : jg_rel h 0 g) (W : jw g) {x y : Int32} : jt_T 176 (0, [(0, .inr (.inr (4, 0, 0))), (1, .inl (x)), (2, .inl (y))], [], h) (fun u h' => u = some (.inl (za_man g x y)) ∧ jg_fr 1 h h') := by
  have bn := jw_n W
  have bm := jw_m W
  have bt := jw_t W
  refine jt_go jm_m176 0 2 (f' := (2, [(0, .inr (.inr (4, 0, 0))), (1, .inl (x)), (2, .inl (y))], [.inl (x), .inr (.inr (4, 0, 0))], h)) (P := True) rfl trivial ?_
  refine jt_callp (w := .inl (jm_b (nI 0 ≤ x ∧ x < nI (g 1)))) jm_m176 2 (mi' := 150) (as := [.inr (.inr (4, 0, 0)), .inl (x)]) (rest := []) (nxt := 5) rfl rfl jm_m150 rfl rfl (tb_isMan R W) ?_
  refine jt_ifbeq jm_m176 3 (tgt := 30) (nxt := 8) rfl rfl rfl (fun c5 => ?_) (fun c5 => ?_)
  · refine jt_go jm_m176 16 1 (f' := (31, [(0, .inr (.inr (4, 0, 0))), (1, .inl (x)), (2, .inl (y))], [.inl ((-1))], h)) (P := True) rfl trivial ?_
    refine jt_iret jm_m176 17 rfl ?_
    exact ⟨jt_li (if_neg (fun z => c5 z.1)).symm, jg_fr_rf⟩
  · obtain ⟨p, hbp, rfl⟩ := jx_cat (by omega) c5
    refine jt_go jm_m176 4 3 (f' := (11, [(0, .inr (.inr (4, 0, 0))), (1, .inl (nI p)), (2, .inl (y))], [.inl (nI 1), .inl (nI 0), .inl (y)], h)) (P := True) rfl trivial ?_
    refine jt_callp (w := .inl (jm_b (nI 0 ≤ y ∧ y ≤ nI 1))) jm_m176 7 (mi' := 143) (as := [.inl (y), .inl (nI 0), .inl (nI 1)]) (rest := []) (nxt := 14) rfl rfl jm_m143 rfl rfl (tb_isIn) ?_
    refine jt_ifbeq jm_m176 8 (tgt := 30) (nxt := 17) rfl rfl rfl (fun c14 => ?_) (fun c14 => ?_)
    · refine jt_go jm_m176 16 1 (f' := (31, [(0, .inr (.inr (4, 0, 0))), (1, .inl (nI p)), (2, .inl (y))], [.inl ((-1))], h)) (P := True) rfl trivial ?_
      refine jt_iret jm_m176 17 rfl ?_
      exact ⟨jt_li (if_neg (fun z => c14 z.2)).symm, jg_fr_rf⟩
    · obtain ⟨w, hbw, rfl⟩ := jx_win (by decide) c14
      refine jt_go jm_m176 9 4 (f' := (23, [(0, .inr (.inr (4, 0, 0))), (1, .inl (nI p)), (2, .inl (nI w))], [.inl (nI w), .inl (nI p), .inr (.inr (5, 0, 0))], h)) (P := True) rfl trivial ?_
      refine jt_callp (w := .inl (nI (66 + 2 * p + w))) jm_m176 13 (mi' := 148) (as := [.inl (nI p), .inl (nI w)]) (rest := [.inr (.inr (5, 0, 0))]) (nxt := 26) rfl rfl jm_m148 rfl rfl (tb_ofM (k := 66 + 2 * p + w) (by omega)) ?_
      refine jt_go jm_m176 14 1 (f' := (27, [(0, .inr (.inr (4, 0, 0))), (1, .inl (nI p)), (2, .inl (nI w))], [.inl (h (5, 0, 0) (nI (66 + 2 * p + w)).toNatClampNeg)], h)) (P := vp_in (nI (66 + 2 * p + w)) 78 ∧ True) rfl ⟨(vp_in_nI (by omega) (by decide)), trivial⟩ ?_
      refine jt_ti (show (h (5, 0, 0) (nI (66 + 2 * p + w)).toNatClampNeg) = nI (g (66 + 2 * p + w)) from jg_get R (k := 66 + 2 * p + w) (nI_clamp (by omega)) (by omega)) ?_
      refine jt_go jm_m176 15 1 (f' := (31, [(0, .inr (.inr (4, 0, 0))), (1, .inl (nI p)), (2, .inl (nI w))], [.inl (nI (g (66 + 2 * p + w)))], h)) (P := True) rfl trivial ?_
      refine jt_iret jm_m176 17 rfl ?_
      refine ⟨jt_li ?_, jg_fr_rf⟩
      unfold za_man
      refine Eq.trans ?_ (if_pos ⟨c5, c14⟩).symm
      rw [nI_clamp (n := p) (by omega), nI_clamp (n := w) (by omega)]
      unfold zb_man
      have b1 := jw_pas W (c := p) (by omega)
      rcases (show w = 0 ∨ w = 1 by omega) with rfl | rfl
      · rfl
      · have e : 66 + 2 * p + 1 = 67 + 2 * p := by omega
        rw [e]
        show nI (g (67 + 2 * p)) = jm_b _
        rcases (show g (67 + 2 * p) = 0 ∨ g (67 + 2 * p) = 1 by omega) with q | q
        · rw [jm_b_neg (by omega)]; exact congrArg nI q
        · rw [jm_b_pos q]; exact congrArg nI q
def zb_place (g : Nat → Nat) (p w : Nat) : Int32 := if w = 0 then nI (g (4 + p)) else if w = 1 then nI (g (20 + p)) else nI (sp_bits (fun c => decide (g (38 + 5 * c) = p)) (g 0))
def za_place (g : Nat → Nat) (x y : Int32) : Int32 := if (nI 0 ≤ x ∧ x ≤ nI 15) ∧ (nI 0 ≤ y ∧ y ≤ nI 2) then zb_place g x.toNatClampNeg y.toNatClampNeg else (-1)
set_option maxHeartbeats 4000000 in
set_option maxRecDepth 20000 in
theorem ca_place {h : jm_M} {g : Nat → Nat} (R : jf_rel h 0 g) (W : jw g) {x y : Int32} : jt_T 77 (0, [(0, .inr (.inr (0, 0, 0))), (1, .inl (x)), (2, .inl (y))], [], h) (fun u h' => u = some (.inl (za_place g x y)) ∧ jf_fr 1 h h') := by
  have bn := jw_n W
  have bm := jw_m W
  have bt := jw_t W
  refine jt_go jm_m77 0 1 (f' := (1, [(0, .inr (.inr (0, 0, 0))), (1, .inl (x)), (2, .inl (y))], [.inl (x)], h)) (P := True) rfl trivial ?_
  refine jt_callp (w := .inl (jm_b (nI 0 ≤ x ∧ x ≤ nI 15))) jm_m77 1 (mi' := 138) (as := [.inl (x)]) (rest := []) (nxt := 4) rfl rfl jm_m138 rfl rfl (ta_place) ?_
  refine jt_ifbne jm_m77 2 (tgt := 9) (nxt := 7) rfl rfl rfl (fun c4 => ?_) (fun c4 => ?_)
  · obtain ⟨p, hbp, rfl⟩ := jx_win (by decide) c4
    refine jt_go jm_m77 5 1 (f' := (10, [(0, .inr (.inr (0, 0, 0))), (1, .inl (nI p)), (2, .inl (y))], [.inl (y)], h)) (P := True) rfl trivial ?_
    refine jt_ts jm_m77 6 rfl ⟨fun d0 => ?_, fun d0 => ⟨fun d1 => ?_, fun d1 => ⟨fun d2 => ?_, fun d2 => ?_⟩⟩⟩
    · have d0 : y = nI 0 := d0
      show jt_T 77 (36, [(0, .inr (.inr (0, 0, 0))), (1, .inl (nI p)), (2, .inl (y))], [], h) _
      refine jt_go jm_m77 7 5 (f' := (45, [(0, .inr (.inr (0, 0, 0))), (1, .inl (nI p)), (2, .inl (y))], [.inl (h (6, 0, 0) (nI p).toNatClampNeg)], h)) (P := vp_in (nI p) 16 ∧ True) rfl ⟨(vp_in_nI (by omega) (by decide)), trivial⟩ ?_
      refine jt_ti (show (h (6, 0, 0) (nI p).toNatClampNeg) = nI (g (4 + p)) from jf_fish R (c := p) (nI_clamp (by omega)) (by omega)) ?_
      have bq1 := jw_fish W (p := p) (by omega)
      refine jt_iret jm_m77 12 rfl ?_
      subst d0
      refine ⟨jt_li ?_, jf_fr_rf⟩
      unfold za_place
      refine Eq.trans ?_ (if_pos ⟨c4, ⟨nI_pos' (by decide), (nI_leI (by decide) (by decide)).mpr (by decide)⟩⟩).symm
      rw [nI_clamp (n := p) (by omega), nI_clamp (n := 0) (by omega)]
      unfold zb_place
      (repeat' split) <;> first | done | rfl | (exfalso; omega) | exact (jm_b_pos (by assumption)).symm | exact (jm_b_neg (by assumption)).symm | exact congrArg (fun z => nI (g z)) (by omega) | exact congrArg nI (by omega) | (congr 1; omega)
    · have d1 : y = nI 1 := d1
      show jt_T 77 (46, [(0, .inr (.inr (0, 0, 0))), (1, .inl (nI p)), (2, .inl (y))], [], h) _
      refine jt_go jm_m77 13 5 (f' := (55, [(0, .inr (.inr (0, 0, 0))), (1, .inl (nI p)), (2, .inl (y))], [.inl (h (6, 0, 1) (nI p).toNatClampNeg)], h)) (P := vp_in (nI p) 16 ∧ True) rfl ⟨(vp_in_nI (by omega) (by decide)), trivial⟩ ?_
      refine jt_ti (show (h (6, 0, 1) (nI p).toNatClampNeg) = nI (g (20 + p)) from jf_mice R (c := p) (nI_clamp (by omega)) (by omega)) ?_
      have bq2 := jw_mice W (p := p) (by omega)
      refine jt_iret jm_m77 18 rfl ?_
      subst d1
      refine ⟨jt_li ?_, jf_fr_rf⟩
      unfold za_place
      refine Eq.trans ?_ (if_pos ⟨c4, ⟨nI_pos' (by decide), (nI_leI (by decide) (by decide)).mpr (by decide)⟩⟩).symm
      rw [nI_clamp (n := p) (by omega), nI_clamp (n := 1) (by omega)]
      unfold zb_place
      (repeat' split) <;> first | done | rfl | (exfalso; omega) | exact (jm_b_pos (by assumption)).symm | exact (jm_b_neg (by assumption)).symm | exact congrArg (fun z => nI (g z)) (by omega) | exact congrArg nI (by omega) | (congr 1; omega)
    · have d2 : y = nI 2 := d2
      show jt_T 77 (56, [(0, .inr (.inr (0, 0, 0))), (1, .inl (nI p)), (2, .inl (y))], [], h) _
      refine jt_go jm_m77 19 3 (f' := (61, [(0, .inr (.inr (0, 0, 0))), (1, .inl (nI p)), (2, .inl (y))], [.inl (nI p), .inr (.inr (2, 0, 0))], h)) (P := True) rfl trivial ?_
      refine jt_callp (w := .inl (nI (sp_bits (fun c => decide (g (38 + 5 * c) = p)) (g 0)))) jm_m77 22 (mi' := 28) (as := [.inr (.inr (2, 0, 0)), .inl (nI p)]) (rest := []) (nxt := 64) rfl rfl jm_m28 rfl rfl (ta_catsAt R W (by omega)) ?_
      refine jt_iret jm_m77 23 rfl ?_
      subst d2
      refine ⟨jt_li ?_, jf_fr_rf⟩
      unfold za_place
      refine Eq.trans ?_ (if_pos ⟨c4, ⟨nI_pos' (by decide), (nI_leI (by decide) (by decide)).mpr (by decide)⟩⟩).symm
      rw [nI_clamp (n := p) (by omega), nI_clamp (n := 2) (by omega)]
      unfold zb_place
      (repeat' split) <;> first | done | rfl | (exfalso; omega) | exact (jm_b_pos (by assumption)).symm | exact (jm_b_neg (by assumption)).symm | exact congrArg (fun z => nI (g z)) (by omega) | exact congrArg nI (by omega) | (congr 1; omega)
    · show jt_T 77 (65, [(0, .inr (.inr (0, 0, 0))), (1, .inl (nI p)), (2, .inl (y))], [], h) _
      refine jt_go jm_m77 24 1 (f' := (66, [(0, .inr (.inr (0, 0, 0))), (1, .inl (nI p)), (2, .inl (y))], [.inl ((-1))], h)) (P := True) rfl trivial ?_
      refine jt_iret jm_m77 25 rfl ?_
      exact ⟨jt_li (if_neg (fun z => jx_nwin (by decide) (fun j hj => by
        rcases (show j = 0 ∨ j = 1 ∨ j = 2 by omega) with rfl | rfl | rfl
        · exact d0
        · exact d1
        · exact d2) z.2)).symm, jf_fr_rf⟩
  · refine jt_go jm_m77 3 1 (f' := (8, [(0, .inr (.inr (0, 0, 0))), (1, .inl (x)), (2, .inl (y))], [.inl ((-1))], h)) (P := True) rfl trivial ?_
    refine jt_iret jm_m77 4 rfl ?_
    exact ⟨jt_li (if_neg (fun z => c4 z.1)).symm, jf_fr_rf⟩
set_option maxHeartbeats 4000000 in
set_option maxRecDepth 20000 in
theorem cb_place {h : jm_M} {g : Nat → Nat} (R : jg_rel h 0 g) (W : jw g) {x y : Int32} : jt_T 178 (0, [(0, .inr (.inr (4, 0, 0))), (1, .inl (x)), (2, .inl (y))], [], h) (fun u h' => u = some (.inl (za_place g x y)) ∧ jg_fr 1 h h') := by
  have bn := jw_n W
  have bm := jw_m W
  have bt := jw_t W
  refine jt_go jm_m178 0 1 (f' := (1, [(0, .inr (.inr (4, 0, 0))), (1, .inl (x)), (2, .inl (y))], [.inl (x)], h)) (P := True) rfl trivial ?_
  refine jt_callp (w := .inl (jm_b (nI 0 ≤ x ∧ x ≤ nI 15))) jm_m178 1 (mi' := 151) (as := [.inl (x)]) (rest := []) (nxt := 4) rfl rfl jm_m151 rfl rfl (tb_place) ?_
  refine jt_ifbeq jm_m178 2 (tgt := 16) (nxt := 7) rfl rfl rfl (fun c4 => ?_) (fun c4 => ?_)
  · refine jt_go jm_m178 8 1 (f' := (17, [(0, .inr (.inr (4, 0, 0))), (1, .inl (x)), (2, .inl (y))], [.inl ((-1))], h)) (P := True) rfl trivial ?_
    refine jt_iret jm_m178 9 rfl ?_
    exact ⟨jt_li (if_neg (fun z => c4 z.1)).symm, jg_fr_rf⟩
  · obtain ⟨p, hbp, rfl⟩ := jx_win (by decide) c4
    refine jt_go jm_m178 3 3 (f' := (10, [(0, .inr (.inr (4, 0, 0))), (1, .inl (nI p)), (2, .inl (y))], [.inl (nI 2), .inl (nI 0), .inl (y)], h)) (P := True) rfl trivial ?_
    refine jt_callp (w := .inl (jm_b (nI 0 ≤ y ∧ y ≤ nI 2))) jm_m178 6 (mi' := 143) (as := [.inl (y), .inl (nI 0), .inl (nI 2)]) (rest := []) (nxt := 13) rfl rfl jm_m143 rfl rfl (tb_isIn) ?_
    refine jt_ifbne jm_m178 7 (tgt := 18) (nxt := 16) rfl rfl rfl (fun c13 => ?_) (fun c13 => ?_)
    · obtain ⟨w, hbw, rfl⟩ := jx_win (by decide) c13
      refine jt_go jm_m178 10 1 (f' := (19, [(0, .inr (.inr (4, 0, 0))), (1, .inl (nI p)), (2, .inl (nI w))], [.inl (nI w)], h)) (P := True) rfl trivial ?_
      refine jt_nifne jm_m178 11 (by omega) (tgt := 33) (nxt := 22) rfl rfl rfl (fun c19 => ?_) (fun c19 => ?_)
      · refine jt_go jm_m178 19 2 (f' := (35, [(0, .inr (.inr (4, 0, 0))), (1, .inl (nI p)), (2, .inl (nI w))], [.inl (nI 1), .inl (nI w)], h)) (P := True) rfl trivial ?_
        refine jt_nicne jm_m178 21 (a := w) (b := 1) (by omega) (by omega) (tgt := 50) (nxt := 38) rfl rfl rfl (fun c35 => ?_) (fun c35 => ?_)
        · refine jt_go jm_m178 29 3 (f' := (55, [(0, .inr (.inr (4, 0, 0))), (1, .inl (nI p)), (2, .inl (nI w))], [.inl (nI p), .inr (.inr (5, 0, 0))], h)) (P := True) rfl trivial ?_
          refine jt_callp (w := .inl (nI (sp_bits (fun c => decide (g (38 + 5 * c) = p)) (g 0)))) jm_m178 32 (mi' := 177) (as := [.inr (.inr (5, 0, 0)), .inl (nI p)]) (rest := []) (nxt := 58) rfl rfl jm_m177 rfl rfl (tb_catsAt R W (by omega)) ?_
          refine jt_iret jm_m178 33 rfl ?_
          refine ⟨jt_li ?_, jg_fr_rf⟩
          unfold za_place
          refine Eq.trans ?_ (if_pos ⟨c4, c13⟩).symm
          rw [nI_clamp (n := p) (by omega), nI_clamp (n := w) (by omega)]
          unfold zb_place
          (repeat' split) <;> first | done | rfl | (exfalso; omega) | exact (jm_b_pos (by assumption)).symm | exact (jm_b_neg (by assumption)).symm | exact congrArg (fun z => nI (g z)) (by omega) | exact congrArg nI (by omega) | (congr 1; omega)
        · refine jt_go jm_m178 22 5 (f' := (46, [(0, .inr (.inr (4, 0, 0))), (1, .inl (nI p)), (2, .inl (nI w))], [.inl ((nI 20) + (nI p)), .inr (.inr (5, 0, 0))], h)) (P := True) rfl trivial ?_
          refine jt_ti (show ((nI 20) + (nI p)) = nI (20 + p) from nI_add _ _) ?_
          refine jt_go jm_m178 27 1 (f' := (47, [(0, .inr (.inr (4, 0, 0))), (1, .inl (nI p)), (2, .inl (nI w))], [.inl (h (5, 0, 0) (nI (20 + p)).toNatClampNeg)], h)) (P := vp_in (nI (20 + p)) 78 ∧ True) rfl ⟨(vp_in_nI (by omega) (by decide)), trivial⟩ ?_
          refine jt_ti (show (h (5, 0, 0) (nI (20 + p)).toNatClampNeg) = nI (g (20 + p)) from jg_get R (k := 20 + p) (nI_clamp (by omega)) (by omega)) ?_
          have bq1 := jw_mice W (p := p) (by omega)
          refine jt_go jm_m178 28 1 (f' := (58, [(0, .inr (.inr (4, 0, 0))), (1, .inl (nI p)), (2, .inl (nI w))], [.inl (nI (g (20 + p)))], h)) (P := True) rfl trivial ?_
          refine jt_iret jm_m178 33 rfl ?_
          refine ⟨jt_li ?_, jg_fr_rf⟩
          unfold za_place
          refine Eq.trans ?_ (if_pos ⟨c4, c13⟩).symm
          rw [nI_clamp (n := p) (by omega), nI_clamp (n := w) (by omega)]
          unfold zb_place
          (repeat' split) <;> first | done | rfl | (exfalso; omega) | exact (jm_b_pos (by assumption)).symm | exact (jm_b_neg (by assumption)).symm | exact congrArg (fun z => nI (g z)) (by omega) | exact congrArg nI (by omega) | (congr 1; omega)
      · refine jt_go jm_m178 12 5 (f' := (29, [(0, .inr (.inr (4, 0, 0))), (1, .inl (nI p)), (2, .inl (nI w))], [.inl ((nI 4) + (nI p)), .inr (.inr (5, 0, 0))], h)) (P := True) rfl trivial ?_
        refine jt_ti (show ((nI 4) + (nI p)) = nI (4 + p) from nI_add _ _) ?_
        refine jt_go jm_m178 17 1 (f' := (30, [(0, .inr (.inr (4, 0, 0))), (1, .inl (nI p)), (2, .inl (nI w))], [.inl (h (5, 0, 0) (nI (4 + p)).toNatClampNeg)], h)) (P := vp_in (nI (4 + p)) 78 ∧ True) rfl ⟨(vp_in_nI (by omega) (by decide)), trivial⟩ ?_
        refine jt_ti (show (h (5, 0, 0) (nI (4 + p)).toNatClampNeg) = nI (g (4 + p)) from jg_get R (k := 4 + p) (nI_clamp (by omega)) (by omega)) ?_
        have bq2 := jw_fish W (p := p) (by omega)
        refine jt_go jm_m178 18 1 (f' := (58, [(0, .inr (.inr (4, 0, 0))), (1, .inl (nI p)), (2, .inl (nI w))], [.inl (nI (g (4 + p)))], h)) (P := True) rfl trivial ?_
        refine jt_iret jm_m178 33 rfl ?_
        refine ⟨jt_li ?_, jg_fr_rf⟩
        unfold za_place
        refine Eq.trans ?_ (if_pos ⟨c4, c13⟩).symm
        rw [nI_clamp (n := p) (by omega), nI_clamp (n := w) (by omega)]
        unfold zb_place
        (repeat' split) <;> first | done | rfl | (exfalso; omega) | exact (jm_b_pos (by assumption)).symm | exact (jm_b_neg (by assumption)).symm | exact congrArg (fun z => nI (g z)) (by omega) | exact congrArg nI (by omega) | (congr 1; omega)
    · refine jt_go jm_m178 8 1 (f' := (17, [(0, .inr (.inr (4, 0, 0))), (1, .inl (nI p)), (2, .inl (y))], [.inl ((-1))], h)) (P := True) rfl trivial ?_
      refine jt_iret jm_m178 9 rfl ?_
      exact ⟨jt_li (if_neg (fun z => c13 z.2)).symm, jg_fr_rf⟩
def zb_cat (g : Nat → Nat) (c w : Nat) : Int32 := if w = 5 then nI (sp_goal g c) else if w = 6 then nI (sp_pace (g (36 + 5 * c)) (g (37 + 5 * c)) (g 2)) else if w = 7 then jm_b (sp_read g c) else nI (g (36 + 5 * c + w))
def za_cat (g : Nat → Nat) (x y : Int32) : Int32 := if (nI 0 ≤ x ∧ x < nI (g 0)) ∧ (nI 0 ≤ y ∧ y ≤ nI 7) then zb_cat g x.toNatClampNeg y.toNatClampNeg else (-1)
set_option maxHeartbeats 4000000 in
set_option maxRecDepth 20000 in
theorem ca_cat {h : jm_M} {g : Nat → Nat} (R : jf_rel h 0 g) (W : jw g) {x y : Int32} : jt_T 75 (0, [(0, .inr (.inr (0, 0, 0))), (1, .inl (x)), (2, .inl (y))], [], h) (fun u h' => u = some (.inl (za_cat g x y)) ∧ jf_fr 1 h h') := by
  have bn := jw_n W
  have bm := jw_m W
  have bt := jw_t W
  refine jt_go jm_m75 0 3 (f' := (5, [(0, .inr (.inr (0, 0, 0))), (1, .inl (x)), (2, .inl (y))], [.inl (x), .inr (.inr (2, 0, 0))], h)) (P := True) rfl trivial ?_
  refine jt_callp (w := .inl (jm_b (nI 0 ≤ x ∧ x < nI (g 0)))) jm_m75 3 (mi' := 7) (as := [.inr (.inr (2, 0, 0)), .inl (x)]) (rest := []) (nxt := 8) rfl rfl jm_m7 rfl rfl (ta_hasCat R W) ?_
  refine jt_ifbne jm_m75 4 (tgt := 13) (nxt := 11) rfl rfl rfl (fun c8 => ?_) (fun c8 => ?_)
  · obtain ⟨c, hbc, rfl⟩ := jx_cat (by omega) c8
    refine jt_go jm_m75 7 1 (f' := (14, [(0, .inr (.inr (0, 0, 0))), (1, .inl (nI c)), (2, .inl (y))], [.inl (y)], h)) (P := True) rfl trivial ?_
    refine jt_ts jm_m75 8 rfl ⟨fun d0 => ?_, fun d0 => ⟨fun d1 => ?_, fun d1 => ⟨fun d2 => ?_, fun d2 => ⟨fun d3 => ?_, fun d3 => ⟨fun d4 => ?_, fun d4 => ⟨fun d5 => ?_, fun d5 => ⟨fun d6 => ?_, fun d6 => ⟨fun d7 => ?_, fun d7 => ?_⟩⟩⟩⟩⟩⟩⟩⟩
    · have d0 : y = nI 0 := d0
      show jt_T 75 (60, [(0, .inr (.inr (0, 0, 0))), (1, .inl (nI c)), (2, .inl (y))], [], h) _
      refine jt_go jm_m75 9 5 (f' := (69, [(0, .inr (.inr (0, 0, 0))), (1, .inl (nI c)), (2, .inl (y))], [.inl (h (2, 0, 1) (nI c).toNatClampNeg)], h)) (P := vp_in (nI c) 6 ∧ True) rfl ⟨(vp_in_nI (by omega) (by decide)), trivial⟩ ?_
      refine jt_ti (show (h (2, 0, 1) (nI c).toNatClampNeg) = nI (g (36 + 5 * c)) from jf_kind R (c := c) (nI_clamp (by omega)) (by omega)) ?_
      have bq1 := jw_kind W (c := c) (by omega)
      refine jt_iret jm_m75 14 rfl ?_
      subst d0
      refine ⟨jt_li ?_, jf_fr_rf⟩
      unfold za_cat
      refine Eq.trans ?_ (if_pos ⟨c8, ⟨nI_pos' (by decide), (nI_leI (by decide) (by decide)).mpr (by decide)⟩⟩).symm
      rw [nI_clamp (n := c) (by omega), nI_clamp (n := 0) (by omega)]
      unfold zb_cat
      (repeat' split) <;> first | done | rfl | (exfalso; omega) | exact (jm_b_pos (by assumption)).symm | exact (jm_b_neg (by assumption)).symm | exact congrArg (fun z => nI (g z)) (by omega) | exact congrArg nI (by omega) | (congr 1; omega)
    · have d1 : y = nI 1 := d1
      show jt_T 75 (70, [(0, .inr (.inr (0, 0, 0))), (1, .inl (nI c)), (2, .inl (y))], [], h) _
      refine jt_go jm_m75 15 5 (f' := (79, [(0, .inr (.inr (0, 0, 0))), (1, .inl (nI c)), (2, .inl (y))], [.inl (h (2, 0, 2) (nI c).toNatClampNeg)], h)) (P := vp_in (nI c) 6 ∧ True) rfl ⟨(vp_in_nI (by omega) (by decide)), trivial⟩ ?_
      refine jt_ti (show (h (2, 0, 2) (nI c).toNatClampNeg) = nI (g (37 + 5 * c)) from jf_fig R (c := c) (nI_clamp (by omega)) (by omega)) ?_
      have bq2 := jw_fig W (c := c) (by omega)
      refine jt_iret jm_m75 20 rfl ?_
      subst d1
      refine ⟨jt_li ?_, jf_fr_rf⟩
      unfold za_cat
      refine Eq.trans ?_ (if_pos ⟨c8, ⟨nI_pos' (by decide), (nI_leI (by decide) (by decide)).mpr (by decide)⟩⟩).symm
      rw [nI_clamp (n := c) (by omega), nI_clamp (n := 1) (by omega)]
      unfold zb_cat
      (repeat' split) <;> first | done | rfl | (exfalso; omega) | exact (jm_b_pos (by assumption)).symm | exact (jm_b_neg (by assumption)).symm | exact congrArg (fun z => nI (g z)) (by omega) | exact congrArg nI (by omega) | (congr 1; omega)
    · have d2 : y = nI 2 := d2
      show jt_T 75 (80, [(0, .inr (.inr (0, 0, 0))), (1, .inl (nI c)), (2, .inl (y))], [], h) _
      refine jt_go jm_m75 21 5 (f' := (89, [(0, .inr (.inr (0, 0, 0))), (1, .inl (nI c)), (2, .inl (y))], [.inl (h (2, 0, 3) (nI c).toNatClampNeg)], h)) (P := vp_in (nI c) 6 ∧ True) rfl ⟨(vp_in_nI (by omega) (by decide)), trivial⟩ ?_
      refine jt_ti (show (h (2, 0, 3) (nI c).toNatClampNeg) = nI (g (38 + 5 * c)) from jf_at R (c := c) (nI_clamp (by omega)) (by omega)) ?_
      have bq3 := jw_at W (c := c) (by omega)
      refine jt_iret jm_m75 26 rfl ?_
      subst d2
      refine ⟨jt_li ?_, jf_fr_rf⟩
      unfold za_cat
      refine Eq.trans ?_ (if_pos ⟨c8, ⟨nI_pos' (by decide), (nI_leI (by decide) (by decide)).mpr (by decide)⟩⟩).symm
      rw [nI_clamp (n := c) (by omega), nI_clamp (n := 2) (by omega)]
      unfold zb_cat
      (repeat' split) <;> first | done | rfl | (exfalso; omega) | exact (jm_b_pos (by assumption)).symm | exact (jm_b_neg (by assumption)).symm | exact congrArg (fun z => nI (g z)) (by omega) | exact congrArg nI (by omega) | (congr 1; omega)
    · have d3 : y = nI 3 := d3
      show jt_T 75 (90, [(0, .inr (.inr (0, 0, 0))), (1, .inl (nI c)), (2, .inl (y))], [], h) _
      refine jt_go jm_m75 27 5 (f' := (99, [(0, .inr (.inr (0, 0, 0))), (1, .inl (nI c)), (2, .inl (y))], [.inl (h (2, 0, 4) (nI c).toNatClampNeg)], h)) (P := vp_in (nI c) 6 ∧ True) rfl ⟨(vp_in_nI (by omega) (by decide)), trivial⟩ ?_
      refine jt_ti (show (h (2, 0, 4) (nI c).toNatClampNeg) = nI (g (39 + 5 * c)) from jf_hair R (c := c) (nI_clamp (by omega)) (by omega)) ?_
      have bq4 := jw_hair W (c := c) (by omega)
      refine jt_iret jm_m75 32 rfl ?_
      subst d3
      refine ⟨jt_li ?_, jf_fr_rf⟩
      unfold za_cat
      refine Eq.trans ?_ (if_pos ⟨c8, ⟨nI_pos' (by decide), (nI_leI (by decide) (by decide)).mpr (by decide)⟩⟩).symm
      rw [nI_clamp (n := c) (by omega), nI_clamp (n := 3) (by omega)]
      unfold zb_cat
      (repeat' split) <;> first | done | rfl | (exfalso; omega) | exact (jm_b_pos (by assumption)).symm | exact (jm_b_neg (by assumption)).symm | exact congrArg (fun z => nI (g z)) (by omega) | exact congrArg nI (by omega) | (congr 1; omega)
    · have d4 : y = nI 4 := d4
      show jt_T 75 (100, [(0, .inr (.inr (0, 0, 0))), (1, .inl (nI c)), (2, .inl (y))], [], h) _
      refine jt_go jm_m75 33 5 (f' := (109, [(0, .inr (.inr (0, 0, 0))), (1, .inl (nI c)), (2, .inl (y))], [.inl (h (2, 0, 5) (nI c).toNatClampNeg)], h)) (P := vp_in (nI c) 6 ∧ True) rfl ⟨(vp_in_nI (by omega) (by decide)), trivial⟩ ?_
      refine jt_ti (show (h (2, 0, 5) (nI c).toNatClampNeg) = nI (g (40 + 5 * c)) from jf_name R (c := c) (nI_clamp (by omega)) (by omega)) ?_
      have bq5 := jw_name W (c := c) (by omega)
      refine jt_iret jm_m75 38 rfl ?_
      subst d4
      refine ⟨jt_li ?_, jf_fr_rf⟩
      unfold za_cat
      refine Eq.trans ?_ (if_pos ⟨c8, ⟨nI_pos' (by decide), (nI_leI (by decide) (by decide)).mpr (by decide)⟩⟩).symm
      rw [nI_clamp (n := c) (by omega), nI_clamp (n := 4) (by omega)]
      unfold zb_cat
      (repeat' split) <;> first | done | rfl | (exfalso; omega) | exact (jm_b_pos (by assumption)).symm | exact (jm_b_neg (by assumption)).symm | exact congrArg (fun z => nI (g z)) (by omega) | exact congrArg nI (by omega) | (congr 1; omega)
    · have d5 : y = nI 5 := d5
      show jt_T 75 (110, [(0, .inr (.inr (0, 0, 0))), (1, .inl (nI c)), (2, .inl (y))], [], h) _
      refine jt_go jm_m75 39 3 (f' := (115, [(0, .inr (.inr (0, 0, 0))), (1, .inl (nI c)), (2, .inl (y))], [.inl (nI c), .inr (.inr (2, 0, 0))], h)) (P := True) rfl trivial ?_
      refine jt_callp (w := .inl (nI (sp_goal g c))) jm_m75 42 (mi' := 24) (as := [.inr (.inr (2, 0, 0)), .inl (nI c)]) (rest := []) (nxt := 118) rfl rfl jm_m24 rfl rfl (ta_goalOf R W (by omega)) ?_
      refine jt_iret jm_m75 43 rfl ?_
      subst d5
      refine ⟨jt_li ?_, jf_fr_rf⟩
      unfold za_cat
      refine Eq.trans ?_ (if_pos ⟨c8, ⟨nI_pos' (by decide), (nI_leI (by decide) (by decide)).mpr (by decide)⟩⟩).symm
      rw [nI_clamp (n := c) (by omega), nI_clamp (n := 5) (by omega)]
      unfold zb_cat
      (repeat' split) <;> first | done | rfl | (exfalso; omega) | exact (jm_b_pos (by assumption)).symm | exact (jm_b_neg (by assumption)).symm | exact congrArg (fun z => nI (g z)) (by omega) | exact congrArg nI (by omega) | (congr 1; omega)
    · have d6 : y = nI 6 := d6
      show jt_T 75 (119, [(0, .inr (.inr (0, 0, 0))), (1, .inl (nI c)), (2, .inl (y))], [], h) _
      refine jt_go jm_m75 44 6 (f' := (131, [(0, .inr (.inr (0, 0, 0))), (1, .inl (nI c)), (2, .inl (y))], [.inl (h (2, 0, 0) 11), .inl (nI c), .inr (.inr (2, 0, 0))], h)) (P := True) rfl trivial ?_
      refine jt_ti (show (h (2, 0, 0) 11) = nI (g 2) from jf_hour R) ?_
      have bq6 := jw_t W
      refine jt_callp (w := .inl (nI (sp_pace (g (36 + 5 * c)) (g (37 + 5 * c)) (g 2)))) jm_m75 50 (mi' := 25) (as := [.inr (.inr (2, 0, 0)), .inl (nI c), .inl (nI (g 2))]) (rest := []) (nxt := 134) rfl rfl jm_m25 rfl rfl (ta_paceOf R W (by omega) (by omega)) ?_
      refine jt_iret jm_m75 51 rfl ?_
      subst d6
      refine ⟨jt_li ?_, jf_fr_rf⟩
      unfold za_cat
      refine Eq.trans ?_ (if_pos ⟨c8, ⟨nI_pos' (by decide), (nI_leI (by decide) (by decide)).mpr (by decide)⟩⟩).symm
      rw [nI_clamp (n := c) (by omega), nI_clamp (n := 6) (by omega)]
      unfold zb_cat
      (repeat' split) <;> first | done | rfl | (exfalso; omega) | exact (jm_b_pos (by assumption)).symm | exact (jm_b_neg (by assumption)).symm | exact congrArg (fun z => nI (g z)) (by omega) | exact congrArg nI (by omega) | (congr 1; omega)
    · have d7 : y = nI 7 := d7
      show jt_T 75 (135, [(0, .inr (.inr (0, 0, 0))), (1, .inl (nI c)), (2, .inl (y))], [], h) _
      refine jt_go jm_m75 52 3 (f' := (140, [(0, .inr (.inr (0, 0, 0))), (1, .inl (nI c)), (2, .inl (y))], [.inl (nI c), .inr (.inr (2, 0, 0))], h)) (P := True) rfl trivial ?_
      refine jt_callp (w := .inl (jm_b (sp_read g c))) jm_m75 55 (mi' := 26) (as := [.inr (.inr (2, 0, 0)), .inl (nI c)]) (rest := []) (nxt := 143) rfl rfl jm_m26 rfl rfl (ta_read R W (by omega)) ?_
      refine jt_ifbeq jm_m75 56 (tgt := 150) (nxt := 146) rfl rfl rfl (fun c143 => ?_) (fun c143 => ?_)
      · refine jt_go jm_m75 59 1 (f' := (151, [(0, .inr (.inr (0, 0, 0))), (1, .inl (nI c)), (2, .inl (y))], [.inl (nI 0)], h)) (P := True) rfl trivial ?_
        refine jt_iret jm_m75 60 rfl ?_
        subst d7
        refine ⟨jt_li ?_, jf_fr_rf⟩
        unfold za_cat
        refine Eq.trans ?_ (if_pos ⟨c8, ⟨nI_pos' (by decide), (nI_leI (by decide) (by decide)).mpr (by decide)⟩⟩).symm
        rw [nI_clamp (n := c) (by omega), nI_clamp (n := 7) (by omega)]
        unfold zb_cat
        (repeat' split) <;> first | done | rfl | (exfalso; omega) | exact (jm_b_pos (by assumption)).symm | exact (jm_b_neg (by assumption)).symm | exact congrArg (fun z => nI (g z)) (by omega) | exact congrArg nI (by omega) | (congr 1; omega)
      · refine jt_go jm_m75 57 2 (f' := (151, [(0, .inr (.inr (0, 0, 0))), (1, .inl (nI c)), (2, .inl (y))], [.inl (nI 1)], h)) (P := True) rfl trivial ?_
        refine jt_iret jm_m75 60 rfl ?_
        subst d7
        refine ⟨jt_li ?_, jf_fr_rf⟩
        unfold za_cat
        refine Eq.trans ?_ (if_pos ⟨c8, ⟨nI_pos' (by decide), (nI_leI (by decide) (by decide)).mpr (by decide)⟩⟩).symm
        rw [nI_clamp (n := c) (by omega), nI_clamp (n := 7) (by omega)]
        unfold zb_cat
        (repeat' split) <;> first | done | rfl | (exfalso; omega) | exact (jm_b_pos (by assumption)).symm | exact (jm_b_neg (by assumption)).symm | exact congrArg (fun z => nI (g z)) (by omega) | exact congrArg nI (by omega) | (congr 1; omega)
    · show jt_T 75 (152, [(0, .inr (.inr (0, 0, 0))), (1, .inl (nI c)), (2, .inl (y))], [], h) _
      refine jt_go jm_m75 61 1 (f' := (153, [(0, .inr (.inr (0, 0, 0))), (1, .inl (nI c)), (2, .inl (y))], [.inl ((-1))], h)) (P := True) rfl trivial ?_
      refine jt_iret jm_m75 62 rfl ?_
      exact ⟨jt_li (if_neg (fun z => jx_nwin (by decide) (fun j hj => by
        rcases (show j = 0 ∨ j = 1 ∨ j = 2 ∨ j = 3 ∨ j = 4 ∨ j = 5 ∨ j = 6 ∨ j = 7 by omega) with rfl | rfl | rfl | rfl | rfl | rfl | rfl | rfl
        · exact d0
        · exact d1
        · exact d2
        · exact d3
        · exact d4
        · exact d5
        · exact d6
        · exact d7) z.2)).symm, jf_fr_rf⟩
  · refine jt_go jm_m75 5 1 (f' := (12, [(0, .inr (.inr (0, 0, 0))), (1, .inl (x)), (2, .inl (y))], [.inl ((-1))], h)) (P := True) rfl trivial ?_
    refine jt_iret jm_m75 6 rfl ?_
    exact ⟨jt_li (if_neg (fun z => c8 z.1)).symm, jf_fr_rf⟩
set_option maxHeartbeats 4000000 in
set_option maxRecDepth 20000 in
theorem cb_cat {h : jm_M} {g : Nat → Nat} (R : jg_rel h 0 g) (W : jw g) {x y : Int32} : jt_T 175 (0, [(0, .inr (.inr (4, 0, 0))), (1, .inl (x)), (2, .inl (y))], [], h) (fun u h' => u = some (.inl (za_cat g x y)) ∧ jg_fr 1 h h') := by
  have bn := jw_n W
  have bm := jw_m W
  have bt := jw_t W
  refine jt_go jm_m175 0 2 (f' := (2, [(0, .inr (.inr (4, 0, 0))), (1, .inl (x)), (2, .inl (y))], [.inl (x), .inr (.inr (4, 0, 0))], h)) (P := True) rfl trivial ?_
  refine jt_callp (w := .inl (jm_b (nI 0 ≤ x ∧ x < nI (g 0)))) jm_m175 2 (mi' := 149) (as := [.inr (.inr (4, 0, 0)), .inl (x)]) (rest := []) (nxt := 5) rfl rfl jm_m149 rfl rfl (tb_isCat R W) ?_
  refine jt_ifbeq jm_m175 3 (tgt := 18) (nxt := 8) rfl rfl rfl (fun c5 => ?_) (fun c5 => ?_)
  · refine jt_go jm_m175 9 1 (f' := (19, [(0, .inr (.inr (4, 0, 0))), (1, .inl (x)), (2, .inl (y))], [.inl ((-1))], h)) (P := True) rfl trivial ?_
    refine jt_iret jm_m175 10 rfl ?_
    exact ⟨jt_li (if_neg (fun z => c5 z.1)).symm, jg_fr_rf⟩
  · obtain ⟨c, hbc, rfl⟩ := jx_cat (by omega) c5
    refine jt_go jm_m175 4 3 (f' := (12, [(0, .inr (.inr (4, 0, 0))), (1, .inl (nI c)), (2, .inl (y))], [.inl (nI 7), .inl (nI 0), .inl (y)], h)) (P := True) rfl trivial ?_
    refine jt_callp (w := .inl (jm_b (nI 0 ≤ y ∧ y ≤ nI 7))) jm_m175 7 (mi' := 143) (as := [.inl (y), .inl (nI 0), .inl (nI 7)]) (rest := []) (nxt := 15) rfl rfl jm_m143 rfl rfl (tb_isIn) ?_
    refine jt_ifbne jm_m175 8 (tgt := 20) (nxt := 18) rfl rfl rfl (fun c15 => ?_) (fun c15 => ?_)
    · obtain ⟨w, hbw, rfl⟩ := jx_win (by decide) c15
      refine jt_go jm_m175 11 1 (f' := (21, [(0, .inr (.inr (4, 0, 0))), (1, .inl (nI c)), (2, .inl (nI w))], [.inl (nI w)], h)) (P := True) rfl trivial ?_
      refine jt_ts jm_m175 12 rfl ⟨fun d0 => ?_, fun d0 => ⟨fun d1 => ?_, fun d1 => ⟨fun d2 => ?_, fun d2 => ?_⟩⟩⟩
      · have d0 : w = 5 := nI_inj (by omega) (by decide) d0
        show jt_T 175 (48, [(0, .inr (.inr (4, 0, 0))), (1, .inl (nI c)), (2, .inl (nI w))], [], h) _
        refine jt_go jm_m175 13 3 (f' := (53, [(0, .inr (.inr (4, 0, 0))), (1, .inl (nI c)), (2, .inl (nI w))], [.inl (nI c), .inr (.inr (5, 0, 0))], h)) (P := True) rfl trivial ?_
        refine jt_callp (w := .inl (nI (sp_goal g c))) jm_m175 16 (mi' := 157) (as := [.inr (.inr (5, 0, 0)), .inl (nI c)]) (rest := []) (nxt := 56) rfl rfl jm_m157 rfl rfl (tb_goal R W (by omega)) ?_
        refine jt_iret jm_m175 17 rfl ?_
        refine ⟨jt_li ?_, jg_fr_rf⟩
        unfold za_cat
        refine Eq.trans ?_ (if_pos ⟨c5, c15⟩).symm
        rw [nI_clamp (n := c) (by omega), nI_clamp (n := w) (by omega)]
        unfold zb_cat
        (repeat' split) <;> first | done | rfl | (exfalso; omega) | exact (jm_b_pos (by assumption)).symm | exact (jm_b_neg (by assumption)).symm | exact congrArg (fun z => nI (g z)) (by omega) | exact congrArg nI (by omega) | (congr 1; omega)
      · have d1 : w = 6 := nI_inj (by omega) (by decide) d1
        show jt_T 175 (57, [(0, .inr (.inr (4, 0, 0))), (1, .inl (nI c)), (2, .inl (nI w))], [], h) _
        refine jt_go jm_m175 18 7 (f' := (68, [(0, .inr (.inr (4, 0, 0))), (1, .inl (nI c)), (2, .inl (nI w))], [.inl (h (5, 0, 0) (nI 2).toNatClampNeg), .inl (nI c), .inr (.inr (5, 0, 0))], h)) (P := vp_in (nI 2) 78 ∧ True) rfl ⟨(vp_in_nI (by omega) (by decide)), trivial⟩ ?_
        refine jt_ti (show (h (5, 0, 0) (nI 2).toNatClampNeg) = nI (g 2) from jg_get R (k := 2) (nI_clamp (by omega)) (by omega)) ?_
        have bq1 := jw_t W
        refine jt_callp (w := .inl (nI (sp_pace (g (36 + 5 * c)) (g (37 + 5 * c)) (g 2)))) jm_m175 25 (mi' := 158) (as := [.inr (.inr (5, 0, 0)), .inl (nI c), .inl (nI (g 2))]) (rest := []) (nxt := 71) rfl rfl jm_m158 rfl rfl (tb_pace R W (by omega) (by omega)) ?_
        refine jt_iret jm_m175 26 rfl ?_
        refine ⟨jt_li ?_, jg_fr_rf⟩
        unfold za_cat
        refine Eq.trans ?_ (if_pos ⟨c5, c15⟩).symm
        rw [nI_clamp (n := c) (by omega), nI_clamp (n := w) (by omega)]
        unfold zb_cat
        (repeat' split) <;> first | done | rfl | (exfalso; omega) | exact (jm_b_pos (by assumption)).symm | exact (jm_b_neg (by assumption)).symm | exact congrArg (fun z => nI (g z)) (by omega) | exact congrArg nI (by omega) | (congr 1; omega)
      · have d2 : w = 7 := nI_inj (by omega) (by decide) d2
        show jt_T 175 (72, [(0, .inr (.inr (4, 0, 0))), (1, .inl (nI c)), (2, .inl (nI w))], [], h) _
        refine jt_go jm_m175 27 3 (f' := (77, [(0, .inr (.inr (4, 0, 0))), (1, .inl (nI c)), (2, .inl (nI w))], [.inl (nI c), .inr (.inr (5, 0, 0))], h)) (P := True) rfl trivial ?_
        refine jt_callp (w := .inl (jm_b (sp_read g c))) jm_m175 30 (mi' := 160) (as := [.inr (.inr (5, 0, 0)), .inl (nI c)]) (rest := []) (nxt := 80) rfl rfl jm_m160 rfl rfl (tb_read R W (by omega)) ?_
        refine jt_ifbeq jm_m175 31 (tgt := 87) (nxt := 83) rfl rfl rfl (fun c80 => ?_) (fun c80 => ?_)
        · refine jt_go jm_m175 34 1 (f' := (88, [(0, .inr (.inr (4, 0, 0))), (1, .inl (nI c)), (2, .inl (nI w))], [.inl (nI 0)], h)) (P := True) rfl trivial ?_
          refine jt_iret jm_m175 35 rfl ?_
          refine ⟨jt_li ?_, jg_fr_rf⟩
          unfold za_cat
          refine Eq.trans ?_ (if_pos ⟨c5, c15⟩).symm
          rw [nI_clamp (n := c) (by omega), nI_clamp (n := w) (by omega)]
          unfold zb_cat
          (repeat' split) <;> first | done | rfl | (exfalso; omega) | exact (jm_b_pos (by assumption)).symm | exact (jm_b_neg (by assumption)).symm | exact congrArg (fun z => nI (g z)) (by omega) | exact congrArg nI (by omega) | (congr 1; omega)
        · refine jt_go jm_m175 32 2 (f' := (88, [(0, .inr (.inr (4, 0, 0))), (1, .inl (nI c)), (2, .inl (nI w))], [.inl (nI 1)], h)) (P := True) rfl trivial ?_
          refine jt_iret jm_m175 35 rfl ?_
          refine ⟨jt_li ?_, jg_fr_rf⟩
          unfold za_cat
          refine Eq.trans ?_ (if_pos ⟨c5, c15⟩).symm
          rw [nI_clamp (n := c) (by omega), nI_clamp (n := w) (by omega)]
          unfold zb_cat
          (repeat' split) <;> first | done | rfl | (exfalso; omega) | exact (jm_b_pos (by assumption)).symm | exact (jm_b_neg (by assumption)).symm | exact congrArg (fun z => nI (g z)) (by omega) | exact congrArg nI (by omega) | (congr 1; omega)
      · have d0 : ¬ w = 5 := fun z => d0 (by rw [z]; rfl)
        have d1 : ¬ w = 6 := fun z => d1 (by rw [z]; rfl)
        have d2 : ¬ w = 7 := fun z => d2 (by rw [z]; rfl)
        show jt_T 175 (89, [(0, .inr (.inr (4, 0, 0))), (1, .inl (nI c)), (2, .inl (nI w))], [], h) _
        refine jt_go jm_m175 36 4 (f' := (95, [(0, .inr (.inr (4, 0, 0))), (1, .inl (nI c)), (2, .inl (nI w))], [.inl (nI w), .inl (nI c), .inr (.inr (5, 0, 0))], h)) (P := True) rfl trivial ?_
        refine jt_callp (w := .inl (nI (36 + 5 * c + w))) jm_m175 40 (mi' := 147) (as := [.inl (nI c), .inl (nI w)]) (rest := [.inr (.inr (5, 0, 0))]) (nxt := 98) rfl rfl jm_m147 rfl rfl (tb_ofC (k := 36 + 5 * c + w) (by omega)) ?_
        refine jt_go jm_m175 41 1 (f' := (99, [(0, .inr (.inr (4, 0, 0))), (1, .inl (nI c)), (2, .inl (nI w))], [.inl (h (5, 0, 0) (nI (36 + 5 * c + w)).toNatClampNeg)], h)) (P := vp_in (nI (36 + 5 * c + w)) 78 ∧ True) rfl ⟨(vp_in_nI (by omega) (by decide)), trivial⟩ ?_
        refine jt_ti (show (h (5, 0, 0) (nI (36 + 5 * c + w)).toNatClampNeg) = nI (g (36 + 5 * c + w)) from jg_get R (k := 36 + 5 * c + w) (nI_clamp (by omega)) (by omega)) ?_
        refine jt_iret jm_m175 42 rfl ?_
        refine ⟨jt_li ?_, jg_fr_rf⟩
        unfold za_cat
        refine Eq.trans ?_ (if_pos ⟨c5, c15⟩).symm
        rw [nI_clamp (n := c) (by omega), nI_clamp (n := w) (by omega)]
        unfold zb_cat
        (repeat' split) <;> first | done | rfl | (exfalso; omega) | exact (jm_b_pos (by assumption)).symm | exact (jm_b_neg (by assumption)).symm | exact congrArg (fun z => nI (g z)) (by omega) | exact congrArg nI (by omega) | (congr 1; omega)
    · refine jt_go jm_m175 9 1 (f' := (19, [(0, .inr (.inr (4, 0, 0))), (1, .inl (nI c)), (2, .inl (y))], [.inl ((-1))], h)) (P := True) rfl trivial ?_
      refine jt_iret jm_m175 10 rfl ?_
      exact ⟨jt_li (if_neg (fun z => c15 z.2)).symm, jg_fr_rf⟩
def zb_catThen (g : Nat → Nat) (c n w : Nat) : Int32 := nI (sp_it g n (38 + 5 * c + w))
def za_catThen (g : Nat → Nat) (x y z : Int32) : Int32 := if (nI 0 ≤ x ∧ x < nI (g 0)) ∧ (nI 0 ≤ y ∧ y ≤ nI 99) ∧ (nI 0 ≤ z ∧ z ≤ nI 1) then zb_catThen g x.toNatClampNeg y.toNatClampNeg z.toNatClampNeg else (-1)
set_option maxHeartbeats 4000000 in
set_option maxRecDepth 20000 in
theorem ca_catThen {h : jm_M} {g : Nat → Nat} (R : jf_rel h 0 g) (W : jw g) {x y z : Int32} : jt_T 84 (0, [(0, .inr (.inr (0, 0, 0))), (1, .inl (x)), (2, .inl (y)), (3, .inl (z))], [], h) (fun u h' => u = some (.inl (za_catThen g x y z)) ∧ jf_fr 1 h h') := by
  have bn := jw_n W
  have bm := jw_m W
  have bt := jw_t W
  refine jt_go jm_m84 0 3 (f' := (5, [(0, .inr (.inr (0, 0, 0))), (1, .inl (x)), (2, .inl (y)), (3, .inl (z))], [.inl (x), .inr (.inr (2, 0, 0))], h)) (P := True) rfl trivial ?_
  refine jt_callp (w := .inl (jm_b (nI 0 ≤ x ∧ x < nI (g 0)))) jm_m84 3 (mi' := 7) (as := [.inr (.inr (2, 0, 0)), .inl (x)]) (rest := []) (nxt := 8) rfl rfl jm_m7 rfl rfl (ta_hasCat R W) ?_
  refine jt_ifbeq jm_m84 4 (tgt := 27) (nxt := 11) rfl rfl rfl (fun c8 => ?_) (fun c8 => ?_)
  · refine jt_go jm_m84 13 1 (f' := (28, [(0, .inr (.inr (0, 0, 0))), (1, .inl (x)), (2, .inl (y)), (3, .inl (z))], [.inl ((-1))], h)) (P := True) rfl trivial ?_
    refine jt_iret jm_m84 14 rfl ?_
    exact ⟨jt_li (if_neg (fun z => c8 z.1)).symm, jf_fr_rf⟩
  · obtain ⟨c, hbc, rfl⟩ := jx_cat (by omega) c8
    refine jt_go jm_m84 5 1 (f' := (12, [(0, .inr (.inr (0, 0, 0))), (1, .inl (nI c)), (2, .inl (y)), (3, .inl (z))], [.inl (y)], h)) (P := True) rfl trivial ?_
    refine jt_callp (w := .inl (jm_b (nI 0 ≤ y ∧ y ≤ nI 99))) jm_m84 6 (mi' := 141) (as := [.inl (y)]) (rest := []) (nxt := 15) rfl rfl jm_m141 rfl rfl (ta_ahead) ?_
    refine jt_ifbeq jm_m84 7 (tgt := 27) (nxt := 18) rfl rfl rfl (fun c15 => ?_) (fun c15 => ?_)
    · refine jt_go jm_m84 13 1 (f' := (28, [(0, .inr (.inr (0, 0, 0))), (1, .inl (nI c)), (2, .inl (y)), (3, .inl (z))], [.inl ((-1))], h)) (P := True) rfl trivial ?_
      refine jt_iret jm_m84 14 rfl ?_
      exact ⟨jt_li (if_neg (fun z => c15 z.2.1)).symm, jf_fr_rf⟩
    · obtain ⟨n, hbn, rfl⟩ := jx_win (by decide) c15
      refine jt_go jm_m84 8 3 (f' := (21, [(0, .inr (.inr (0, 0, 0))), (1, .inl (nI c)), (2, .inl (nI n)), (3, .inl (z))], [.inl (nI 1), .inl (nI 0), .inl (z)], h)) (P := True) rfl trivial ?_
      refine jt_callp (w := .inl (jm_b (nI 0 ≤ z ∧ z ≤ nI 1))) jm_m84 11 (mi' := 136) (as := [.inl (z), .inl (nI 0), .inl (nI 1)]) (rest := []) (nxt := 24) rfl rfl jm_m136 rfl rfl (ta_within) ?_
      refine jt_ifbne jm_m84 12 (tgt := 29) (nxt := 27) rfl rfl rfl (fun c24 => ?_) (fun c24 => ?_)
      · obtain ⟨w, hbw, rfl⟩ := jx_win (by decide) c24
        refine jt_go jm_m84 15 2 (f' := (31, [(0, .inr (.inr (0, 0, 0))), (1, .inl (nI c)), (2, .inl (nI n)), (3, .inl (nI w))], [.inl (nI n), .inr (.inr (0, 0, 0))], h)) (P := True) rfl trivial ?_
        refine jt_call jm_m84 17 (mi' := 132) (as := [.inr (.inr (0, 0, 0)), .inl (nI n)]) (rest := []) (nxt := 34) rfl rfl jm_m132 rfl rfl (ta_look R W (by omega)) ?_
        rintro u h1 ⟨rfl, Rh1, Fh1⟩
        show jt_T 84 (34, [(0, .inr (.inr (0, 0, 0))), (1, .inl (nI c)), (2, .inl (nI n)), (3, .inl (nI w))], [], h1) _
        have Rh1 : jf_rel h1 1 (sp_it g n) := Rh1
        have Wh1 : jw (sp_it g n) := (jw_it W _).1
        have Zh1 := jf_mov0 R Fh1
        refine jt_go jm_m84 18 1 (f' := (35, [(0, .inr (.inr (0, 0, 0))), (1, .inl (nI c)), (2, .inl (nI n)), (3, .inl (nI w))], [.inl (nI w)], h1)) (P := True) rfl trivial ?_
        refine jt_nifne jm_m84 19 (by omega) (tgt := 50) (nxt := 38) rfl rfl rfl (fun c35 => ?_) (fun c35 => ?_)
        · refine jt_go jm_m84 26 5 (f' := (59, [(0, .inr (.inr (0, 0, 0))), (1, .inl (nI c)), (2, .inl (nI n)), (3, .inl (nI w))], [.inl (h1 (2, 1, 4) (nI c).toNatClampNeg)], h1)) (P := vp_in (nI c) 6 ∧ True) rfl ⟨(vp_in_nI (by omega) (by decide)), trivial⟩ ?_
          refine jt_ti (show (h1 (2, 1, 4) (nI c).toNatClampNeg) = nI ((sp_it g n) (39 + 5 * c)) from jf_hair Rh1 (c := c) (nI_clamp (by omega)) (by omega)) ?_
          have bq1 := jw_hair Wh1 (c := c) (by omega)
          refine jt_iret jm_m84 31 rfl ?_
          refine ⟨jt_li ?_, Fh1⟩
          unfold za_catThen
          refine Eq.trans ?_ (if_pos ⟨c8, c15, c24⟩).symm
          rw [nI_clamp (n := c) (by omega), nI_clamp (n := n) (by omega), nI_clamp (n := w) (by omega)]
          unfold zb_catThen
          exact congrArg (fun z => nI (sp_it g n z)) (by omega)
        · refine jt_go jm_m84 20 5 (f' := (47, [(0, .inr (.inr (0, 0, 0))), (1, .inl (nI c)), (2, .inl (nI n)), (3, .inl (nI w))], [.inl (h1 (2, 1, 3) (nI c).toNatClampNeg)], h1)) (P := vp_in (nI c) 6 ∧ True) rfl ⟨(vp_in_nI (by omega) (by decide)), trivial⟩ ?_
          refine jt_ti (show (h1 (2, 1, 3) (nI c).toNatClampNeg) = nI ((sp_it g n) (38 + 5 * c)) from jf_at Rh1 (c := c) (nI_clamp (by omega)) (by omega)) ?_
          have bq2 := jw_at Wh1 (c := c) (by omega)
          refine jt_go jm_m84 25 1 (f' := (59, [(0, .inr (.inr (0, 0, 0))), (1, .inl (nI c)), (2, .inl (nI n)), (3, .inl (nI w))], [.inl (nI ((sp_it g n) (38 + 5 * c)))], h1)) (P := True) rfl trivial ?_
          refine jt_iret jm_m84 31 rfl ?_
          refine ⟨jt_li ?_, Fh1⟩
          unfold za_catThen
          refine Eq.trans ?_ (if_pos ⟨c8, c15, c24⟩).symm
          rw [nI_clamp (n := c) (by omega), nI_clamp (n := n) (by omega), nI_clamp (n := w) (by omega)]
          unfold zb_catThen
          exact congrArg (fun z => nI (sp_it g n z)) (by omega)
      · refine jt_go jm_m84 13 1 (f' := (28, [(0, .inr (.inr (0, 0, 0))), (1, .inl (nI c)), (2, .inl (nI n)), (3, .inl (z))], [.inl ((-1))], h)) (P := True) rfl trivial ?_
        refine jt_iret jm_m84 14 rfl ?_
        exact ⟨jt_li (if_neg (fun z => c24 z.2.2)).symm, jf_fr_rf⟩
set_option maxHeartbeats 4000000 in
set_option maxRecDepth 20000 in
theorem cb_catThen {h : jm_M} {g : Nat → Nat} (R : jg_rel h 0 g) (W : jw g) {x y z : Int32} : jt_T 186 (0, [(0, .inr (.inr (4, 0, 0))), (1, .inl (x)), (2, .inl (y)), (3, .inl (z))], [], h) (fun u h' => u = some (.inl (za_catThen g x y z)) ∧ jg_fr 1 h h') := by
  have bn := jw_n W
  have bm := jw_m W
  have bt := jw_t W
  refine jt_go jm_m186 0 2 (f' := (2, [(0, .inr (.inr (4, 0, 0))), (1, .inl (x)), (2, .inl (y)), (3, .inl (z))], [.inl (x), .inr (.inr (4, 0, 0))], h)) (P := True) rfl trivial ?_
  refine jt_callp (w := .inl (jm_b (nI 0 ≤ x ∧ x < nI (g 0)))) jm_m186 2 (mi' := 149) (as := [.inr (.inr (4, 0, 0)), .inl (x)]) (rest := []) (nxt := 5) rfl rfl jm_m149 rfl rfl (tb_isCat R W) ?_
  refine jt_ifbeq jm_m186 3 (tgt := 27) (nxt := 8) rfl rfl rfl (fun c5 => ?_) (fun c5 => ?_)
  · refine jt_go jm_m186 14 1 (f' := (28, [(0, .inr (.inr (4, 0, 0))), (1, .inl (x)), (2, .inl (y)), (3, .inl (z))], [.inl ((-1))], h)) (P := True) rfl trivial ?_
    refine jt_iret jm_m186 15 rfl ?_
    exact ⟨jt_li (if_neg (fun z => c5 z.1)).symm, jg_fr_rf⟩
  · obtain ⟨c, hbc, rfl⟩ := jx_cat (by omega) c5
    refine jt_go jm_m186 4 3 (f' := (12, [(0, .inr (.inr (4, 0, 0))), (1, .inl (nI c)), (2, .inl (y)), (3, .inl (z))], [.inl (nI 99), .inl (nI 0), .inl (y)], h)) (P := True) rfl trivial ?_
    refine jt_callp (w := .inl (jm_b (nI 0 ≤ y ∧ y ≤ nI 99))) jm_m186 7 (mi' := 143) (as := [.inl (y), .inl (nI 0), .inl (nI 99)]) (rest := []) (nxt := 15) rfl rfl jm_m143 rfl rfl (tb_isIn) ?_
    refine jt_ifbeq jm_m186 8 (tgt := 27) (nxt := 18) rfl rfl rfl (fun c15 => ?_) (fun c15 => ?_)
    · refine jt_go jm_m186 14 1 (f' := (28, [(0, .inr (.inr (4, 0, 0))), (1, .inl (nI c)), (2, .inl (y)), (3, .inl (z))], [.inl ((-1))], h)) (P := True) rfl trivial ?_
      refine jt_iret jm_m186 15 rfl ?_
      exact ⟨jt_li (if_neg (fun z => c15 z.2.1)).symm, jg_fr_rf⟩
    · obtain ⟨n, hbn, rfl⟩ := jx_win (by decide) c15
      refine jt_go jm_m186 9 3 (f' := (21, [(0, .inr (.inr (4, 0, 0))), (1, .inl (nI c)), (2, .inl (nI n)), (3, .inl (z))], [.inl (nI 1), .inl (nI 0), .inl (z)], h)) (P := True) rfl trivial ?_
      refine jt_callp (w := .inl (jm_b (nI 0 ≤ z ∧ z ≤ nI 1))) jm_m186 12 (mi' := 143) (as := [.inl (z), .inl (nI 0), .inl (nI 1)]) (rest := []) (nxt := 24) rfl rfl jm_m143 rfl rfl (tb_isIn) ?_
      refine jt_ifbne jm_m186 13 (tgt := 29) (nxt := 27) rfl rfl rfl (fun c24 => ?_) (fun c24 => ?_)
      · obtain ⟨w, hbw, rfl⟩ := jx_win (by decide) c24
        refine jt_go jm_m186 16 2 (f' := (31, [(0, .inr (.inr (4, 0, 0))), (1, .inl (nI c)), (2, .inl (nI n)), (3, .inl (nI w))], [.inl (nI n), .inr (.inr (4, 0, 0))], h)) (P := True) rfl trivial ?_
        refine jt_call jm_m186 18 (mi' := 185) (as := [.inr (.inr (4, 0, 0)), .inl (nI n)]) (rest := []) (nxt := 34) rfl rfl jm_m185 rfl rfl (tb_takes R W (by omega)) ?_
        rintro u h1 ⟨rfl, Rh1, Fh1⟩
        show jt_T 186 (34, [(0, .inr (.inr (4, 0, 0))), (1, .inl (nI c)), (2, .inl (nI n)), (3, .inl (nI w))], [], h1) _
        have Rh1 : jg_rel h1 1 (sp_it g n) := Rh1
        have Wh1 : jw (sp_it g n) := (jw_it W _).1
        have Zh1 := jg_mov0 R Fh1
        refine jt_go jm_m186 19 6 (f' := (42, [(0, .inr (.inr (4, 0, 0))), (1, .inl (nI c)), (2, .inl (nI n)), (3, .inl (nI w))], [.inl ((nI 2) + (nI w)), .inl (nI c), .inr (.inr (5, 1, 0))], h1)) (P := True) rfl trivial ?_
        refine jt_ti (show ((nI 2) + (nI w)) = nI (2 + w) from nI_add _ _) ?_
        refine jt_callp (w := .inl (nI (36 + 5 * c + (2 + w)))) jm_m186 25 (mi' := 147) (as := [.inl (nI c), .inl (nI (2 + w))]) (rest := [.inr (.inr (5, 1, 0))]) (nxt := 45) rfl rfl jm_m147 rfl rfl (tb_ofC (k := 36 + 5 * c + (2 + w)) (by omega)) ?_
        refine jt_go jm_m186 26 1 (f' := (46, [(0, .inr (.inr (4, 0, 0))), (1, .inl (nI c)), (2, .inl (nI n)), (3, .inl (nI w))], [.inl (h1 (5, 1, 0) (nI (36 + 5 * c + (2 + w))).toNatClampNeg)], h1)) (P := vp_in (nI (36 + 5 * c + (2 + w))) 78 ∧ True) rfl ⟨(vp_in_nI (by omega) (by decide)), trivial⟩ ?_
        refine jt_ti (show (h1 (5, 1, 0) (nI (36 + 5 * c + (2 + w))).toNatClampNeg) = nI ((sp_it g n) (36 + 5 * c + (2 + w))) from jg_get Rh1 (k := 36 + 5 * c + (2 + w)) (nI_clamp (by omega)) (by omega)) ?_
        refine jt_iret jm_m186 27 rfl ?_
        refine ⟨jt_li ?_, Fh1⟩
        unfold za_catThen
        refine Eq.trans ?_ (if_pos ⟨c5, c15, c24⟩).symm
        rw [nI_clamp (n := c) (by omega), nI_clamp (n := n) (by omega), nI_clamp (n := w) (by omega)]
        unfold zb_catThen
        exact congrArg (fun z => nI (sp_it g n z)) (by omega)
      · refine jt_go jm_m186 14 1 (f' := (28, [(0, .inr (.inr (4, 0, 0))), (1, .inl (nI c)), (2, .inl (nI n)), (3, .inl (z))], [.inl ((-1))], h)) (P := True) rfl trivial ?_
        refine jt_iret jm_m186 15 rfl ?_
        exact ⟨jt_li (if_neg (fun z => c24 z.2.2)).symm, jg_fr_rf⟩
def zb_then (g : Nat → Nat) (n w : Nat) : Int32 := if w = 0 then nI (sp_pb (sp_it g n)) else nI (sp_sum (fun p => sp_it g n (4 + p)) 16)
def za_then (g : Nat → Nat) (x y : Int32) : Int32 := if (nI 0 ≤ x ∧ x ≤ nI 99) ∧ (nI 0 ≤ y ∧ y ≤ nI 1) then zb_then g x.toNatClampNeg y.toNatClampNeg else (-1)
set_option maxHeartbeats 4000000 in
set_option maxRecDepth 20000 in
theorem ca_then {h : jm_M} {g : Nat → Nat} (R : jf_rel h 0 g) (W : jw g) {x y : Int32} : jt_T 85 (0, [(0, .inr (.inr (0, 0, 0))), (1, .inl (x)), (2, .inl (y))], [], h) (fun u h' => u = some (.inl (za_then g x y)) ∧ jf_fr 1 h h') := by
  have bn := jw_n W
  have bm := jw_m W
  have bt := jw_t W
  refine jt_go jm_m85 0 1 (f' := (1, [(0, .inr (.inr (0, 0, 0))), (1, .inl (x)), (2, .inl (y))], [.inl (x)], h)) (P := True) rfl trivial ?_
  refine jt_callp (w := .inl (jm_b (nI 0 ≤ x ∧ x ≤ nI 99))) jm_m85 1 (mi' := 141) (as := [.inl (x)]) (rest := []) (nxt := 4) rfl rfl jm_m141 rfl rfl (ta_ahead) ?_
  refine jt_ifbeq jm_m85 2 (tgt := 16) (nxt := 7) rfl rfl rfl (fun c4 => ?_) (fun c4 => ?_)
  · refine jt_go jm_m85 8 1 (f' := (17, [(0, .inr (.inr (0, 0, 0))), (1, .inl (x)), (2, .inl (y))], [.inl ((-1))], h)) (P := True) rfl trivial ?_
    refine jt_iret jm_m85 9 rfl ?_
    exact ⟨jt_li (if_neg (fun z => c4 z.1)).symm, jf_fr_rf⟩
  · obtain ⟨n, hbn, rfl⟩ := jx_win (by decide) c4
    refine jt_go jm_m85 3 3 (f' := (10, [(0, .inr (.inr (0, 0, 0))), (1, .inl (nI n)), (2, .inl (y))], [.inl (nI 1), .inl (nI 0), .inl (y)], h)) (P := True) rfl trivial ?_
    refine jt_callp (w := .inl (jm_b (nI 0 ≤ y ∧ y ≤ nI 1))) jm_m85 6 (mi' := 136) (as := [.inl (y), .inl (nI 0), .inl (nI 1)]) (rest := []) (nxt := 13) rfl rfl jm_m136 rfl rfl (ta_within) ?_
    refine jt_ifbne jm_m85 7 (tgt := 18) (nxt := 16) rfl rfl rfl (fun c13 => ?_) (fun c13 => ?_)
    · obtain ⟨w, hbw, rfl⟩ := jx_win (by decide) c13
      refine jt_go jm_m85 10 2 (f' := (20, [(0, .inr (.inr (0, 0, 0))), (1, .inl (nI n)), (2, .inl (nI w))], [.inl (nI n), .inr (.inr (0, 0, 0))], h)) (P := True) rfl trivial ?_
      refine jt_call jm_m85 12 (mi' := 132) (as := [.inr (.inr (0, 0, 0)), .inl (nI n)]) (rest := []) (nxt := 23) rfl rfl jm_m132 rfl rfl (ta_look R W (by omega)) ?_
      rintro u h1 ⟨rfl, Rh1, Fh1⟩
      show jt_T 85 (23, [(0, .inr (.inr (0, 0, 0))), (1, .inl (nI n)), (2, .inl (nI w))], [], h1) _
      have Rh1 : jf_rel h1 1 (sp_it g n) := Rh1
      have Wh1 : jw (sp_it g n) := (jw_it W _).1
      have Zh1 := jf_mov0 R Fh1
      refine jt_go jm_m85 13 1 (f' := (24, [(0, .inr (.inr (0, 0, 0))), (1, .inl (nI n)), (2, .inl (nI w))], [.inl (nI w)], h1)) (P := True) rfl trivial ?_
      refine jt_nifne jm_m85 14 (by omega) (tgt := 37) (nxt := 27) rfl rfl rfl (fun c24 => ?_) (fun c24 => ?_)
      · refine jt_go jm_m85 19 2 (f' := (41, [(0, .inr (.inr (0, 0, 0))), (1, .inl (nI n)), (2, .inl (nI w))], [.inr (.inr (2, 1, 0))], h1)) (P := True) rfl trivial ?_
        refine jt_callp (w := .inl (nI (sp_sum (fun p => (sp_it g n) (4 + p)) 16))) jm_m85 21 (mi' := 31) (as := [.inr (.inr (2, 1, 0))]) (rest := []) (nxt := 44) rfl rfl jm_m31 rfl rfl (ta_fish Rh1 Wh1) ?_
        refine jt_iret jm_m85 22 rfl ?_
        refine ⟨jt_li ?_, Fh1⟩
        unfold za_then
        refine Eq.trans ?_ (if_pos ⟨c4, c13⟩).symm
        rw [nI_clamp (n := n) (by omega), nI_clamp (n := w) (by omega)]
        unfold zb_then
        (repeat' split) <;> first | done | rfl | (exfalso; omega) | exact (jm_b_pos (by assumption)).symm | exact (jm_b_neg (by assumption)).symm | exact congrArg (fun z => nI (g z)) (by omega) | exact congrArg nI (by omega) | (congr 1; omega)
      · refine jt_go jm_m85 15 3 (f' := (34, [(0, .inr (.inr (0, 0, 0))), (1, .inl (nI n)), (2, .inl (nI w))], [.inl (h1 (2, 1, 0) 13)], h1)) (P := True) rfl trivial ?_
        refine jt_ti (show (h1 (2, 1, 0) 13) = nI (sp_pb (sp_it g n)) from jf_pass Rh1) ?_
        have bq1 := jw_pb Wh1
        refine jt_go jm_m85 18 1 (f' := (44, [(0, .inr (.inr (0, 0, 0))), (1, .inl (nI n)), (2, .inl (nI w))], [.inl (nI (sp_pb (sp_it g n)))], h1)) (P := True) rfl trivial ?_
        refine jt_iret jm_m85 22 rfl ?_
        refine ⟨jt_li ?_, Fh1⟩
        unfold za_then
        refine Eq.trans ?_ (if_pos ⟨c4, c13⟩).symm
        rw [nI_clamp (n := n) (by omega), nI_clamp (n := w) (by omega)]
        unfold zb_then
        (repeat' split) <;> first | done | rfl | (exfalso; omega) | exact (jm_b_pos (by assumption)).symm | exact (jm_b_neg (by assumption)).symm | exact congrArg (fun z => nI (g z)) (by omega) | exact congrArg nI (by omega) | (congr 1; omega)
    · refine jt_go jm_m85 8 1 (f' := (17, [(0, .inr (.inr (0, 0, 0))), (1, .inl (nI n)), (2, .inl (y))], [.inl ((-1))], h)) (P := True) rfl trivial ?_
      refine jt_iret jm_m85 9 rfl ?_
      exact ⟨jt_li (if_neg (fun z => c13 z.2)).symm, jf_fr_rf⟩
set_option maxHeartbeats 4000000 in
set_option maxRecDepth 20000 in
theorem cb_then {h : jm_M} {g : Nat → Nat} (R : jg_rel h 0 g) (W : jw g) {x y : Int32} : jt_T 188 (0, [(0, .inr (.inr (4, 0, 0))), (1, .inl (x)), (2, .inl (y))], [], h) (fun u h' => u = some (.inl (za_then g x y)) ∧ jg_fr 1 h h') := by
  have bn := jw_n W
  have bm := jw_m W
  have bt := jw_t W
  refine jt_go jm_m188 0 3 (f' := (4, [(0, .inr (.inr (4, 0, 0))), (1, .inl (x)), (2, .inl (y))], [.inl (nI 99), .inl (nI 0), .inl (x)], h)) (P := True) rfl trivial ?_
  refine jt_callp (w := .inl (jm_b (nI 0 ≤ x ∧ x ≤ nI 99))) jm_m188 3 (mi' := 143) (as := [.inl (x), .inl (nI 0), .inl (nI 99)]) (rest := []) (nxt := 7) rfl rfl jm_m143 rfl rfl (tb_isIn) ?_
  refine jt_ifbeq jm_m188 4 (tgt := 19) (nxt := 10) rfl rfl rfl (fun c7 => ?_) (fun c7 => ?_)
  · refine jt_go jm_m188 10 1 (f' := (20, [(0, .inr (.inr (4, 0, 0))), (1, .inl (x)), (2, .inl (y))], [.inl ((-1))], h)) (P := True) rfl trivial ?_
    refine jt_iret jm_m188 11 rfl ?_
    exact ⟨jt_li (if_neg (fun z => c7 z.1)).symm, jg_fr_rf⟩
  · obtain ⟨n, hbn, rfl⟩ := jx_win (by decide) c7
    refine jt_go jm_m188 5 3 (f' := (13, [(0, .inr (.inr (4, 0, 0))), (1, .inl (nI n)), (2, .inl (y))], [.inl (nI 1), .inl (nI 0), .inl (y)], h)) (P := True) rfl trivial ?_
    refine jt_callp (w := .inl (jm_b (nI 0 ≤ y ∧ y ≤ nI 1))) jm_m188 8 (mi' := 143) (as := [.inl (y), .inl (nI 0), .inl (nI 1)]) (rest := []) (nxt := 16) rfl rfl jm_m143 rfl rfl (tb_isIn) ?_
    refine jt_ifbne jm_m188 9 (tgt := 21) (nxt := 19) rfl rfl rfl (fun c16 => ?_) (fun c16 => ?_)
    · obtain ⟨w, hbw, rfl⟩ := jx_win (by decide) c16
      refine jt_go jm_m188 12 2 (f' := (23, [(0, .inr (.inr (4, 0, 0))), (1, .inl (nI n)), (2, .inl (nI w))], [.inl (nI n), .inr (.inr (4, 0, 0))], h)) (P := True) rfl trivial ?_
      refine jt_call jm_m188 14 (mi' := 185) (as := [.inr (.inr (4, 0, 0)), .inl (nI n)]) (rest := []) (nxt := 26) rfl rfl jm_m185 rfl rfl (tb_takes R W (by omega)) ?_
      rintro u h1 ⟨rfl, Rh1, Fh1⟩
      show jt_T 188 (26, [(0, .inr (.inr (4, 0, 0))), (1, .inl (nI n)), (2, .inl (nI w))], [], h1) _
      have Rh1 : jg_rel h1 1 (sp_it g n) := Rh1
      have Wh1 : jw (sp_it g n) := (jw_it W _).1
      have Zh1 := jg_mov0 R Fh1
      refine jt_go jm_m188 15 1 (f' := (27, [(0, .inr (.inr (4, 0, 0))), (1, .inl (nI n)), (2, .inl (nI w))], [.inl (nI w)], h1)) (P := True) rfl trivial ?_
      refine jt_nifne jm_m188 16 (by omega) (tgt := 40) (nxt := 30) rfl rfl rfl (fun c27 => ?_) (fun c27 => ?_)
      · refine jt_go jm_m188 21 2 (f' := (44, [(0, .inr (.inr (4, 0, 0))), (1, .inl (nI n)), (2, .inl (nI w))], [.inr (.inr (5, 1, 0))], h1)) (P := True) rfl trivial ?_
        refine jt_callp (w := .inl (nI (sp_sum (fun p => (sp_it g n) (4 + p)) 16))) jm_m188 23 (mi' := 187) (as := [.inr (.inr (5, 1, 0))]) (rest := []) (nxt := 47) rfl rfl jm_m187 rfl rfl (tb_fish Rh1 Wh1) ?_
        refine jt_iret jm_m188 24 rfl ?_
        refine ⟨jt_li ?_, Fh1⟩
        unfold za_then
        refine Eq.trans ?_ (if_pos ⟨c7, c16⟩).symm
        rw [nI_clamp (n := n) (by omega), nI_clamp (n := w) (by omega)]
        unfold zb_then
        (repeat' split) <;> first | done | rfl | (exfalso; omega) | exact (jm_b_pos (by assumption)).symm | exact (jm_b_neg (by assumption)).symm | exact congrArg (fun z => nI (g z)) (by omega) | exact congrArg nI (by omega) | (congr 1; omega)
      · refine jt_go jm_m188 17 2 (f' := (34, [(0, .inr (.inr (4, 0, 0))), (1, .inl (nI n)), (2, .inl (nI w))], [.inr (.inr (5, 1, 0))], h1)) (P := True) rfl trivial ?_
        refine jt_callp (w := .inl (nI (sp_pb (sp_it g n)))) jm_m188 19 (mi' := 165) (as := [.inr (.inr (5, 1, 0))]) (rest := []) (nxt := 37) rfl rfl jm_m165 rfl rfl (tb_passed Rh1 Wh1) ?_
        have bq1 := jw_pb Wh1
        refine jt_go jm_m188 20 1 (f' := (47, [(0, .inr (.inr (4, 0, 0))), (1, .inl (nI n)), (2, .inl (nI w))], [.inl (nI (sp_pb (sp_it g n)))], h1)) (P := True) rfl trivial ?_
        refine jt_iret jm_m188 24 rfl ?_
        refine ⟨jt_li ?_, Fh1⟩
        unfold za_then
        refine Eq.trans ?_ (if_pos ⟨c7, c16⟩).symm
        rw [nI_clamp (n := n) (by omega), nI_clamp (n := w) (by omega)]
        unfold zb_then
        (repeat' split) <;> first | done | rfl | (exfalso; omega) | exact (jm_b_pos (by assumption)).symm | exact (jm_b_neg (by assumption)).symm | exact congrArg (fun z => nI (g z)) (by omega) | exact congrArg nI (by omega) | (congr 1; omega)
    · refine jt_go jm_m188 10 1 (f' := (20, [(0, .inr (.inr (4, 0, 0))), (1, .inl (nI n)), (2, .inl (y))], [.inl ((-1))], h)) (P := True) rfl trivial ?_
      refine jt_iret jm_m188 11 rfl ?_
      exact ⟨jt_li (if_neg (fun z => c16 z.2)).symm, jg_fr_rf⟩
def zb_count (g : Nat → Nat) (w : Nat) : Int32 := if w < 4 then nI (g w) else if w = 4 then nI (sp_pb g) else if w = 5 then nI (sp_sum (fun p => g (4 + p)) 16) else nI (sp_bits (fun c => decide (sp_read g c)) (g 0))
def za_count (g : Nat → Nat) (x : Int32) : Int32 := if nI 0 ≤ x ∧ x ≤ nI 6 then zb_count g x.toNatClampNeg else (-1)
set_option maxHeartbeats 4000000 in
set_option maxRecDepth 20000 in
theorem ca_count {h : jm_M} {g : Nat → Nat} (R : jf_rel h 0 g) (W : jw g) {x : Int32} : jt_T 126 (0, [(0, .inr (.inr (0, 0, 0))), (1, .inl (x))], [], h) (fun u h' => u = some (.inl (za_count g x)) ∧ jf_fr 1 h h') := by
  have bn := jw_n W
  have bm := jw_m W
  have bt := jw_t W
  refine jt_go jm_m126 0 1 (f' := (1, [(0, .inr (.inr (0, 0, 0))), (1, .inl (x))], [.inl (x)], h)) (P := True) rfl trivial ?_
  refine jt_ts jm_m126 1 rfl ⟨fun d0 => ?_, fun d0 => ⟨fun d1 => ?_, fun d1 => ⟨fun d2 => ?_, fun d2 => ⟨fun d3 => ?_, fun d3 => ⟨fun d4 => ?_, fun d4 => ⟨fun d5 => ?_, fun d5 => ⟨fun d6 => ?_, fun d6 => ?_⟩⟩⟩⟩⟩⟩⟩
  · have d0 : x = nI 0 := d0
    show jt_T 126 (44, [(0, .inr (.inr (0, 0, 0))), (1, .inl (x))], [], h) _
    refine jt_go jm_m126 2 3 (f' := (51, [(0, .inr (.inr (0, 0, 0))), (1, .inl (x))], [.inl (h (2, 0, 0) 9)], h)) (P := True) rfl trivial ?_
    refine jt_ti (show (h (2, 0, 0) 9) = nI (g 0) from jf_cats R) ?_
    have bq1 := jw_n W
    refine jt_iret jm_m126 5 rfl ?_
    subst d0
    refine ⟨jt_li ?_, jf_fr_rf⟩
    unfold za_count
    refine Eq.trans ?_ (if_pos ⟨nI_pos' (by decide), (nI_leI (by decide) (by decide)).mpr (by decide)⟩).symm
    rw [nI_clamp (n := 0) (by omega)]
    unfold zb_count
    (repeat' split) <;> first | done | rfl | (exfalso; omega) | exact (jm_b_pos (by assumption)).symm | exact (jm_b_neg (by assumption)).symm | exact congrArg (fun z => nI (g z)) (by omega) | exact congrArg nI (by omega) | (congr 1; omega)
  · have d1 : x = nI 1 := d1
    show jt_T 126 (52, [(0, .inr (.inr (0, 0, 0))), (1, .inl (x))], [], h) _
    refine jt_go jm_m126 6 3 (f' := (59, [(0, .inr (.inr (0, 0, 0))), (1, .inl (x))], [.inl (h (2, 0, 0) 10)], h)) (P := True) rfl trivial ?_
    refine jt_ti (show (h (2, 0, 0) 10) = nI (g 1) from jf_men R) ?_
    have bq2 := jw_m W
    refine jt_iret jm_m126 9 rfl ?_
    subst d1
    refine ⟨jt_li ?_, jf_fr_rf⟩
    unfold za_count
    refine Eq.trans ?_ (if_pos ⟨nI_pos' (by decide), (nI_leI (by decide) (by decide)).mpr (by decide)⟩).symm
    rw [nI_clamp (n := 1) (by omega)]
    unfold zb_count
    (repeat' split) <;> first | done | rfl | (exfalso; omega) | exact (jm_b_pos (by assumption)).symm | exact (jm_b_neg (by assumption)).symm | exact congrArg (fun z => nI (g z)) (by omega) | exact congrArg nI (by omega) | (congr 1; omega)
  · have d2 : x = nI 2 := d2
    show jt_T 126 (60, [(0, .inr (.inr (0, 0, 0))), (1, .inl (x))], [], h) _
    refine jt_go jm_m126 10 3 (f' := (67, [(0, .inr (.inr (0, 0, 0))), (1, .inl (x))], [.inl (h (2, 0, 0) 11)], h)) (P := True) rfl trivial ?_
    refine jt_ti (show (h (2, 0, 0) 11) = nI (g 2) from jf_hour R) ?_
    have bq3 := jw_t W
    refine jt_iret jm_m126 13 rfl ?_
    subst d2
    refine ⟨jt_li ?_, jf_fr_rf⟩
    unfold za_count
    refine Eq.trans ?_ (if_pos ⟨nI_pos' (by decide), (nI_leI (by decide) (by decide)).mpr (by decide)⟩).symm
    rw [nI_clamp (n := 2) (by omega)]
    unfold zb_count
    (repeat' split) <;> first | done | rfl | (exfalso; omega) | exact (jm_b_pos (by assumption)).symm | exact (jm_b_neg (by assumption)).symm | exact congrArg (fun z => nI (g z)) (by omega) | exact congrArg nI (by omega) | (congr 1; omega)
  · have d3 : x = nI 3 := d3
    show jt_T 126 (68, [(0, .inr (.inr (0, 0, 0))), (1, .inl (x))], [], h) _
    refine jt_go jm_m126 14 3 (f' := (75, [(0, .inr (.inr (0, 0, 0))), (1, .inl (x))], [.inl (h (2, 0, 0) 12)], h)) (P := True) rfl trivial ?_
    refine jt_ti (show (h (2, 0, 0) 12) = nI (g 3) from jf_day R) ?_
    refine jt_iret jm_m126 17 rfl ?_
    subst d3
    refine ⟨jt_li ?_, jf_fr_rf⟩
    unfold za_count
    refine Eq.trans ?_ (if_pos ⟨nI_pos' (by decide), (nI_leI (by decide) (by decide)).mpr (by decide)⟩).symm
    rw [nI_clamp (n := 3) (by omega)]
    unfold zb_count
    (repeat' split) <;> first | done | rfl | (exfalso; omega) | exact (jm_b_pos (by assumption)).symm | exact (jm_b_neg (by assumption)).symm | exact congrArg (fun z => nI (g z)) (by omega) | exact congrArg nI (by omega) | (congr 1; omega)
  · have d4 : x = nI 4 := d4
    show jt_T 126 (76, [(0, .inr (.inr (0, 0, 0))), (1, .inl (x))], [], h) _
    refine jt_go jm_m126 18 3 (f' := (83, [(0, .inr (.inr (0, 0, 0))), (1, .inl (x))], [.inl (h (2, 0, 0) 13)], h)) (P := True) rfl trivial ?_
    refine jt_ti (show (h (2, 0, 0) 13) = nI (sp_pb g) from jf_pass R) ?_
    have bq4 := jw_pb W
    refine jt_iret jm_m126 21 rfl ?_
    subst d4
    refine ⟨jt_li ?_, jf_fr_rf⟩
    unfold za_count
    refine Eq.trans ?_ (if_pos ⟨nI_pos' (by decide), (nI_leI (by decide) (by decide)).mpr (by decide)⟩).symm
    rw [nI_clamp (n := 4) (by omega)]
    unfold zb_count
    (repeat' split) <;> first | done | rfl | (exfalso; omega) | exact (jm_b_pos (by assumption)).symm | exact (jm_b_neg (by assumption)).symm | exact congrArg (fun z => nI (g z)) (by omega) | exact congrArg nI (by omega) | (congr 1; omega)
  · have d5 : x = nI 5 := d5
    show jt_T 126 (84, [(0, .inr (.inr (0, 0, 0))), (1, .inl (x))], [], h) _
    refine jt_go jm_m126 22 2 (f' := (88, [(0, .inr (.inr (0, 0, 0))), (1, .inl (x))], [.inr (.inr (2, 0, 0))], h)) (P := True) rfl trivial ?_
    refine jt_callp (w := .inl (nI (sp_sum (fun p => g (4 + p)) 16))) jm_m126 24 (mi' := 31) (as := [.inr (.inr (2, 0, 0))]) (rest := []) (nxt := 91) rfl rfl jm_m31 rfl rfl (ta_fish R W) ?_
    refine jt_iret jm_m126 25 rfl ?_
    subst d5
    refine ⟨jt_li ?_, jf_fr_rf⟩
    unfold za_count
    refine Eq.trans ?_ (if_pos ⟨nI_pos' (by decide), (nI_leI (by decide) (by decide)).mpr (by decide)⟩).symm
    rw [nI_clamp (n := 5) (by omega)]
    unfold zb_count
    (repeat' split) <;> first | done | rfl | (exfalso; omega) | exact (jm_b_pos (by assumption)).symm | exact (jm_b_neg (by assumption)).symm | exact congrArg (fun z => nI (g z)) (by omega) | exact congrArg nI (by omega) | (congr 1; omega)
  · have d6 : x = nI 6 := d6
    show jt_T 126 (92, [(0, .inr (.inr (0, 0, 0))), (1, .inl (x))], [], h) _
    refine jt_go jm_m126 26 2 (f' := (96, [(0, .inr (.inr (0, 0, 0))), (1, .inl (x))], [.inr (.inr (2, 0, 0))], h)) (P := True) rfl trivial ?_
    refine jt_callp (w := .inl (nI (sp_bits (fun c => decide (sp_read g c)) (g 0)))) jm_m126 28 (mi' := 27) (as := [.inr (.inr (2, 0, 0))]) (rest := []) (nxt := 99) rfl rfl jm_m27 rfl rfl (ta_readable R W) ?_
    refine jt_iret jm_m126 29 rfl ?_
    subst d6
    refine ⟨jt_li ?_, jf_fr_rf⟩
    unfold za_count
    refine Eq.trans ?_ (if_pos ⟨nI_pos' (by decide), (nI_leI (by decide) (by decide)).mpr (by decide)⟩).symm
    rw [nI_clamp (n := 6) (by omega)]
    unfold zb_count
    (repeat' split) <;> first | done | rfl | (exfalso; omega) | exact (jm_b_pos (by assumption)).symm | exact (jm_b_neg (by assumption)).symm | exact congrArg (fun z => nI (g z)) (by omega) | exact congrArg nI (by omega) | (congr 1; omega)
  · show jt_T 126 (100, [(0, .inr (.inr (0, 0, 0))), (1, .inl (x))], [], h) _
    refine jt_go jm_m126 30 1 (f' := (101, [(0, .inr (.inr (0, 0, 0))), (1, .inl (x))], [.inl ((-1))], h)) (P := True) rfl trivial ?_
    refine jt_iret jm_m126 31 rfl ?_
    exact ⟨jt_li (if_neg (fun z => jx_nwin (by decide) (fun j hj => by
      rcases (show j = 0 ∨ j = 1 ∨ j = 2 ∨ j = 3 ∨ j = 4 ∨ j = 5 ∨ j = 6 by omega) with rfl | rfl | rfl | rfl | rfl | rfl | rfl
      · exact d0
      · exact d1
      · exact d2
      · exact d3
      · exact d4
      · exact d5
      · exact d6) z)).symm, jf_fr_rf⟩
