/-! What it is: the class' help; bits. -/
theorem jx_shl16 : ∀ k, k < 16 → nI 1 <<< (nI k &&& 31) = nI (2 ^ k) := by decide +kernel
theorem jx_orN {a b : Nat} (h : a ||| b < 2 ^ 31) (ha : a < 2 ^ 31) (hb : b < 2 ^ 31) : nI a ||| nI b = nI (a ||| b) := by
  apply Int32.toBitVec_inj.mp
  rw [Int32.toBitVec_or]
  apply BitVec.eq_of_toNat_eq
  rw [BitVec.toNat_or]
  show (a % 2 ^ 32) ||| (b % 2 ^ 32) = (a ||| b) % 2 ^ 32
  rw [Nat.mod_eq_of_lt (by omega), Nat.mod_eq_of_lt (by omega), Nat.mod_eq_of_lt (by omega)]
theorem jx_or16 {B k : Nat} (hk : k < 16) (hB : B < 2 ^ k) : nI B ||| (nI 1 <<< (nI k &&& 31)) = nI (B + 2 ^ k) := by
  have h16 : 2 ^ k ≤ 2 ^ 15 := Nat.pow_le_pow_right (by decide) (by omega)
  have e : B ||| 2 ^ k = B + 2 ^ k := by
    have := Nat.two_pow_add_eq_or_of_lt hB 1
    rw [Nat.mul_one] at this
    rw [Nat.or_comm, ← this, Nat.add_comm]
  rw [jx_shl16 k hk, jx_orN (by rw [e]; omega) (by omega) (by omega), e]
abbrev wi_t (g : Nat → Nat) (s : Nat → Nat → Nat) (e : Nat → Nat → Int32) (d c : Nat) : Prop := ∀ i, i < s d 4 → e d i = sp_lo (s d 3) ∨ e d i = nI (sp_it g i (38 + 5 * c))
theorem jw_sup {g : Nat → Nat} (W : jw g) {c w k : Nat} (hc : c < 6) (hw : w ≤ 2) (h0 : w = 0 → k < 8) (h1 : w = 1 → k < 10) (h2 : k < 16) : jw (sp_up g (36 + 5 * c + w) k) := by
  rcases (show w = 0 ∨ w = 1 ∨ w = 2 by omega) with rfl | rfl | rfl
  · exact jw_up_kind W hc (h0 rfl)
  · rw [show 36 + 5 * c + 1 = 37 + 5 * c by omega]; exact jw_up_fig W hc (h1 rfl)
  · rw [show 36 + 5 * c + 2 = 38 + 5 * c by omega]; exact jw_up_at W hc h2
set_option maxHeartbeats 4000000 in
set_option maxRecDepth 20000 in
theorem ca_sup {h : jm_M} {g : Nat → Nat} (R : jf_rel h 1 g) (W : jw g) {c w v : Nat} (hc : c < 6) (hw : w ≤ 2) : jt_T 108 (0, [(0, .inr (.inr (0, 0, 0))), (1, .inl (nI c)), (2, .inl (nI w)), (3, .inl (nI v))], [], h) (fun u h' => u = none ∧ jf_rel h' 1 (sp_up g (36 + 5 * c + w) v) ∧ jf_fr 1 h h') := by
  refine jt_go jm_m108 0 1 (f' := (1, [(0, .inr (.inr (0, 0, 0))), (1, .inl (nI c)), (2, .inl (nI w)), (3, .inl (nI v))], [.inl (nI w)], h)) (P := True) rfl trivial ?_
  refine jt_nifne jm_m108 1 (by omega) (tgt := 17) (nxt := 4) rfl rfl rfl (fun c1 => ?_) (fun c1 => ?_)
  · refine jt_go jm_m108 9 2 (f' := (19, [(0, .inr (.inr (0, 0, 0))), (1, .inl (nI c)), (2, .inl (nI w)), (3, .inl (nI v))], [.inl (nI 1), .inl (nI w)], h)) (P := True) rfl trivial ?_
    refine jt_nicne jm_m108 11 (a := w) (b := 1) (by omega) (by omega) (tgt := 35) (nxt := 22) rfl rfl rfl (fun c19 => ?_) (fun c19 => ?_)
    · refine jt_goM jm_m108 19 6 (pc' := 45) (L' := [(0, .inr (.inr (0, 0, 0))), (1, .inl (nI c)), (2, .inl (nI w)), (3, .inl (nI v))]) (st' := []) (m' := jm_set h (2, 1, 3) (upd (h (2, 1, 3)) (nI c).toNatClampNeg (nI v))) (P := vp_in (nI c) 6 ∧ True) rfl ⟨(vp_in_nI (by omega) (by decide)), trivial⟩ (fun h1 eh1 => ?_)
      have Fh1 : jf_fr 1 h h1 := by rw [eh1]; exact jf_fr_set jf_fr_rf ⟨Or.inl rfl, rfl⟩
      obtain ⟨gh1, egh1⟩ : ∃ y, y = sp_up g (38 + 5 * c) (v) := ⟨_, rfl⟩
      have Rh1 : jf_rel h1 1 gh1 := by rw [eh1, egh1]; exact jf_set_at R (c := c) (w := v) (nI_clamp (by omega)) (by omega) rfl
      refine jt_vret jm_m108 25 rfl ?_
      have ew : 36 + 5 * c + w = 38 + 5 * c := by omega
      rw [ew, ← egh1]
      exact ⟨rfl, Rh1, Fh1⟩
    · refine jt_goM jm_m108 12 6 (pc' := 32) (L' := [(0, .inr (.inr (0, 0, 0))), (1, .inl (nI c)), (2, .inl (nI w)), (3, .inl (nI v))]) (st' := []) (m' := jm_set h (2, 1, 2) (upd (h (2, 1, 2)) (nI c).toNatClampNeg (nI v))) (P := vp_in (nI c) 6 ∧ True) rfl ⟨(vp_in_nI (by omega) (by decide)), trivial⟩ (fun h2 eh2 => ?_)
      have Fh2 : jf_fr 1 h h2 := by rw [eh2]; exact jf_fr_set jf_fr_rf ⟨Or.inl rfl, rfl⟩
      obtain ⟨gh2, egh2⟩ : ∃ y, y = sp_up g (37 + 5 * c) (v) := ⟨_, rfl⟩
      have Rh2 : jf_rel h2 1 gh2 := by rw [eh2, egh2]; exact jf_set_fig R (c := c) (w := v) (nI_clamp (by omega)) (by omega) rfl
      refine jt_go jm_m108 18 1 (f' := (45, [(0, .inr (.inr (0, 0, 0))), (1, .inl (nI c)), (2, .inl (nI w)), (3, .inl (nI v))], [], h2)) (P := True) rfl trivial ?_
      refine jt_vret jm_m108 25 rfl ?_
      have ew : 36 + 5 * c + w = 37 + 5 * c := by omega
      rw [ew, ← egh2]
      exact ⟨rfl, Rh2, Fh2⟩
  · refine jt_goM jm_m108 2 6 (pc' := 14) (L' := [(0, .inr (.inr (0, 0, 0))), (1, .inl (nI c)), (2, .inl (nI w)), (3, .inl (nI v))]) (st' := []) (m' := jm_set h (2, 1, 1) (upd (h (2, 1, 1)) (nI c).toNatClampNeg (nI v))) (P := vp_in (nI c) 6 ∧ True) rfl ⟨(vp_in_nI (by omega) (by decide)), trivial⟩ (fun h3 eh3 => ?_)
    have Fh3 : jf_fr 1 h h3 := by rw [eh3]; exact jf_fr_set jf_fr_rf ⟨Or.inl rfl, rfl⟩
    obtain ⟨gh3, egh3⟩ : ∃ y, y = sp_up g (36 + 5 * c) (v) := ⟨_, rfl⟩
    have Rh3 : jf_rel h3 1 gh3 := by rw [eh3, egh3]; exact jf_set_kind R (c := c) (w := v) (nI_clamp (by omega)) (by omega) rfl
    refine jt_go jm_m108 8 1 (f' := (45, [(0, .inr (.inr (0, 0, 0))), (1, .inl (nI c)), (2, .inl (nI w)), (3, .inl (nI v))], [], h3)) (P := True) rfl trivial ?_
    refine jt_vret jm_m108 25 rfl ?_
    have ew : 36 + 5 * c + w = 36 + 5 * c := by omega
    rw [ew, ← egh3]
    exact ⟨rfl, Rh3, Fh3⟩
set_option maxHeartbeats 4000000 in
set_option maxRecDepth 20000 in
theorem ca_told_l {h : jm_M} {g : Nat → Nat} (W : jw g) {s : Nat → Nat → Nat} {e : Nat → Nat → Int32} (K : jk_rel h s e) (Y : kw s) {d : Nat} (hd : d ≤ 7) (qa : s d 0 = 2) {c : Nat} (hc : c < 6) : ∀ k, k ≤ s d 4 → ∀ hm : jm_M, (jf_rel hm 1 (sp_it g k)) → (jf_fr 1 h hm) → (∀ i, i < k → e d i = sp_lo (s d 3) ∨ e d i = nI (sp_it g i (38 + 5 * c))) → jt_T 109 (2, [(0, .inr (.inr (0, 0, 0))), (1, .inr (.inr (3, d, 0))), (2, .inl (nI c)), (3, .inl (nI k))], [], hm) (fun u h' => u = some (.inl (jm_b (wi_t g s e d c))) ∧ jf_fr 1 h h') := jx_up (P := fun k => ∀ hm : jm_M, (jf_rel hm 1 (sp_it g k)) → (jf_fr 1 h hm) → (∀ i, i < k → e d i = sp_lo (s d 3) ∨ e d i = nI (sp_it g i (38 + 5 * c))) → jt_T 109 (2, [(0, .inr (.inr (0, 0, 0))), (1, .inr (.inr (3, d, 0))), (2, .inl (nI c)), (3, .inl (nI k))], [], hm) (fun u h' => u = some (.inl (jm_b (wi_t g s e d c))) ∧ jf_fr 1 h h')) (fun k hk nx hm Rm Fm A => by
  have Wk := (jw_it W k).1
  have e0 := (jw_it W k).2.1
  have e1 := (jw_it W k).2.2
  have bn := jw_n W
  have bm := jw_m W
  have Km := jk_mvf K Fm
  have bz := kw_z Y (d := d) (by omega) qa
  refine jt_go jm_m109 2 3 (f' := (7, [(0, .inr (.inr (0, 0, 0))), (1, .inr (.inr (3, d, 0))), (2, .inl (nI c)), (3, .inl (nI k))], [.inl (hm (3, d, 0) 4), .inl (nI k)], hm)) (P := True) rfl trivial ?_
  refine jt_ti (show (hm (3, d, 0) 4) = nI (s d 4) from jk_size Km (d := d) (by omega) (by assumption)) ?_
  have bq1 := kw_z Y (d := d) (by omega) (by assumption)
  refine jt_nicge jm_m109 5 (a := k) (b := s d 4) (by omega) (by omega) (tgt := 50) (nxt := 10) rfl rfl rfl (fun c7 => ?_) (fun c7 => ?_)
  · refine jt_go jm_m109 26 1 (f' := (51, [(0, .inr (.inr (0, 0, 0))), (1, .inr (.inr (3, d, 0))), (2, .inl (nI c)), (3, .inl (nI k))], [.inl (nI 1)], hm)) (P := True) rfl trivial ?_
    refine jt_zret jm_m109 27 rfl (Or.inr rfl) ?_
    exact ⟨jt_lb1 (fun i hi => A i (by omega)), Fm⟩
  · refine jt_go jm_m109 6 2 (f' := (12, [(0, .inr (.inr (0, 0, 0))), (1, .inr (.inr (3, d, 0))), (2, .inl (nI c)), (3, .inl (nI k))], [.inl (nI k), .inr (.inr (3, d, 0))], hm)) (P := True) rfl trivial ?_
    refine jt_callp (w := .inl (jm_b (e d k = sp_lo (s d 3)))) jm_m109 8 (mi' := 48) (as := [.inr (.inr (3, d, 0)), .inl (nI k)]) (rest := []) (nxt := 15) rfl rfl jm_m48 rfl rfl (tk_skip Km Y (by omega) (by assumption) (by omega)) ?_
    refine jt_ifbne jm_m109 9 (tgt := 37) (nxt := 18) rfl rfl rfl (fun c15 => ?_) (fun c15 => ?_)
    · refine jt_go jm_m109 21 2 (f' := (41, [(0, .inr (.inr (0, 0, 0))), (1, .inr (.inr (3, d, 0))), (2, .inl (nI c)), (3, .inl (nI k))], [.inr (.inr (2, 1, 0))], hm)) (P := True) rfl trivial ?_
      refine jt_call jm_m109 23 (mi' := 18) (as := [.inr (.inr (2, 1, 0))]) (rest := []) (nxt := 44) rfl rfl jm_m18 rfl rfl (ta_hour Rm Wk) ?_
      rintro u h1 ⟨rfl, Rh1, Fh1, Ch1⟩
      show jt_T 109 (44, [(0, .inr (.inr (0, 0, 0))), (1, .inr (.inr (3, d, 0))), (2, .inl (nI c)), (3, .inl (nI k))], [], h1) _
      have Rh1 : jf_rel h1 1 (sp_it g (k + 1)) := Rh1
      have Wh1 := (jw_it W (k + 1)).1
      have uh1 := sp_set_lt Wk (kept := false)
      have Fh1 := jf_fr_tr Fm Fh1
      refine jt_inc jm_m109 24 (c := k) (L' := [(3, .inl (nI (k + 1))), (0, .inr (.inr (0, 0, 0))), (1, .inr (.inr (3, d, 0))), (2, .inl (nI c))]) rfl rfl rfl rfl ?_
      refine jt_go jm_m109 25 1 (f' := (2, [(3, .inl (nI (k + 1))), (0, .inr (.inr (0, 0, 0))), (1, .inr (.inr (3, d, 0))), (2, .inl (nI c))], [], h1)) (P := True) rfl trivial ?_
      refine jt_pick (L' := [(0, .inr (.inr (0, 0, 0))), (1, .inr (.inr (3, d, 0))), (2, .inl (nI c)), (3, .inl (nI (k + 1)))]) [1, 2, 3, 0] rfl ?_
      exact nx (by omega) h1 Rh1 Fh1 (fun i hi => by
        by_cases q : i = k
        · rw [q]; exact Or.inl c15
        · exact A i (by omega))
    · refine jt_go jm_m109 10 2 (f' := (20, [(0, .inr (.inr (0, 0, 0))), (1, .inr (.inr (3, d, 0))), (2, .inl (nI c)), (3, .inl (nI k))], [.inl (nI k), .inr (.inr (3, d, 0))], hm)) (P := True) rfl trivial ?_
      refine jt_callp (w := .inl (e d k)) jm_m109 12 (mi' := 46) (as := [.inr (.inr (3, d, 0)), .inl (nI k)]) (rest := []) (nxt := 23) rfl rfl jm_m46 rfl rfl (tk_get Km Y (by omega) (by assumption) (by omega)) ?_
      refine jt_go jm_m109 13 5 (f' := (32, [(0, .inr (.inr (0, 0, 0))), (1, .inr (.inr (3, d, 0))), (2, .inl (nI c)), (3, .inl (nI k))], [.inl (hm (2, 1, 3) (nI c).toNatClampNeg), .inl (e d k)], hm)) (P := vp_in (nI c) 6 ∧ True) rfl ⟨(vp_in_nI (by omega) (by decide)), trivial⟩ ?_
      refine jt_ti (show (hm (2, 1, 3) (nI c).toNatClampNeg) = nI ((sp_it g k) (38 + 5 * c)) from jf_at Rm (c := c) (nI_clamp (by omega)) (by omega)) ?_
      have bq2 := jw_at Wk (c := c) (by omega)
      refine jt_iceq jm_m109 18 (tgt := 37) (nxt := 35) rfl rfl rfl (fun c32 => ?_) (fun c32 => ?_)
      · refine jt_go jm_m109 21 2 (f' := (41, [(0, .inr (.inr (0, 0, 0))), (1, .inr (.inr (3, d, 0))), (2, .inl (nI c)), (3, .inl (nI k))], [.inr (.inr (2, 1, 0))], hm)) (P := True) rfl trivial ?_
        refine jt_call jm_m109 23 (mi' := 18) (as := [.inr (.inr (2, 1, 0))]) (rest := []) (nxt := 44) rfl rfl jm_m18 rfl rfl (ta_hour Rm Wk) ?_
        rintro u h2 ⟨rfl, Rh2, Fh2, Ch2⟩
        show jt_T 109 (44, [(0, .inr (.inr (0, 0, 0))), (1, .inr (.inr (3, d, 0))), (2, .inl (nI c)), (3, .inl (nI k))], [], h2) _
        have Rh2 : jf_rel h2 1 (sp_it g (k + 1)) := Rh2
        have Wh2 := (jw_it W (k + 1)).1
        have uh2 := sp_set_lt Wk (kept := false)
        have Fh2 := jf_fr_tr Fm Fh2
        refine jt_inc jm_m109 24 (c := k) (L' := [(3, .inl (nI (k + 1))), (0, .inr (.inr (0, 0, 0))), (1, .inr (.inr (3, d, 0))), (2, .inl (nI c))]) rfl rfl rfl rfl ?_
        refine jt_go jm_m109 25 1 (f' := (2, [(3, .inl (nI (k + 1))), (0, .inr (.inr (0, 0, 0))), (1, .inr (.inr (3, d, 0))), (2, .inl (nI c))], [], h2)) (P := True) rfl trivial ?_
        refine jt_pick (L' := [(0, .inr (.inr (0, 0, 0))), (1, .inr (.inr (3, d, 0))), (2, .inl (nI c)), (3, .inl (nI (k + 1)))]) [1, 2, 3, 0] rfl ?_
        exact nx (by omega) h2 Rh2 Fh2 (fun i hi => by
          by_cases q : i = k
          · rw [q]; exact Or.inr c32
          · exact A i (by omega))
      · refine jt_go jm_m109 19 1 (f' := (36, [(0, .inr (.inr (0, 0, 0))), (1, .inr (.inr (3, d, 0))), (2, .inl (nI c)), (3, .inl (nI k))], [.inl (nI 0)], hm)) (P := True) rfl trivial ?_
        refine jt_zret jm_m109 20 rfl (Or.inl rfl) ?_
        exact ⟨jt_lb0 (fun z => (z k (by omega)).elim c15 c32), Fm⟩)
set_option maxHeartbeats 4000000 in
set_option maxRecDepth 20000 in
theorem ca_told {h : jm_M} {g : Nat → Nat} (R : jf_rel h 1 g) (W : jw g) {s : Nat → Nat → Nat} {e : Nat → Nat → Int32} (K : jk_rel h s e) (Y : kw s) {d : Nat} (hd : d ≤ 7) (qa : s d 0 = 2) {c : Nat} (hc : c < 6) : jt_T 109 (0, [(0, .inr (.inr (0, 0, 0))), (1, .inr (.inr (3, d, 0))), (2, .inl (nI c))], [], h) (fun u h' => u = some (.inl (jm_b (wi_t g s e d c))) ∧ jf_fr 1 h h') := by
  refine jt_go jm_m109 0 2 (f' := (2, [(3, .inl (nI 0)), (0, .inr (.inr (0, 0, 0))), (1, .inr (.inr (3, d, 0))), (2, .inl (nI c))], [], h)) (P := True) rfl trivial ?_
  refine jt_pick (L' := [(0, .inr (.inr (0, 0, 0))), (1, .inr (.inr (3, d, 0))), (2, .inl (nI c)), (3, .inl (nI 0))]) [1, 2, 3, 0] rfl ?_
  exact ca_told_l W K Y hd qa hc 0 (Nat.zero_le _) h R jf_fr_rf (fun i hi => absurd hi (Nat.not_lt_zero i))
