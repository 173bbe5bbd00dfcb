/-! SHELVES: judge. -/
set_option maxHeartbeats 4000000 in
set_option maxRecDepth 20000 in
theorem tk_skip {h : jm_M} {s : Nat → Nat → Nat} {e : Nat → Nat → Int32} (K : jk_rel h s e) (Y : kw s) {d : Nat} (hd : d ≤ 7) (qa : s d 0 = 2) {i : Nat} (hi : i < s d 4) : jt_Pu 48 [.inr (.inr (3, d, 0)), .inl (nI i)] h (.inl (jm_b (e d i = sp_lo (s d 3)))) := by
  have ls : sp_lo (s d 3) = if s d 3 = 0 then (-128) else if s d 3 = 1 then (-32768) else (-2147483648) := rfl
  show jt_T 48 (0, [(0, .inr (.inr (3, d, 0))), (1, .inl (nI i))], [], h) _
  refine jt_go jm_m48 0 2 (f' := (4, [(0, .inr (.inr (3, d, 0))), (1, .inl (nI i))], [.inl (h (3, d, 0) 3)], h)) (P := True) rfl trivial ?_
  refine jt_ti (show (h (3, d, 0) 3) = nI (s d 3) from jk_sort K (d := d) (by omega) (by assumption)) ?_
  have bq1 := kw_s Y (d := d) (by omega) (by assumption)
  refine jt_ls jm_m48 2 rfl ⟨fun d0 => ?_, fun d0 => ⟨fun d1 => ?_, fun d1 => ?_⟩⟩
  · have d0 : s d 3 = 0 := nI_inj (by omega) (by decide) d0
    show jt_T 48 (32, [(0, .inr (.inr (3, d, 0))), (1, .inl (nI i))], [], h) _
    refine jt_go jm_m48 3 2 (f' := (34, [(0, .inr (.inr (3, d, 0))), (1, .inl (nI i))], [.inl (nI i), .inr (.inr (3, d, 0))], h)) (P := True) rfl trivial ?_
    refine jt_callp (w := .inl (e d i)) jm_m48 5 (mi' := 46) (as := [.inr (.inr (3, d, 0)), .inl (nI i)]) (rest := []) (nxt := 37) rfl rfl jm_m46 rfl rfl (tk_get K Y (by omega) (by assumption) (by omega)) ?_
    refine jt_go jm_m48 6 1 (f' := (39, [(0, .inr (.inr (3, d, 0))), (1, .inl (nI i))], [.inl ((-128)), .inl (e d i)], h)) (P := True) rfl trivial ?_
    refine jt_icne jm_m48 7 (tgt := 46) (nxt := 42) rfl rfl rfl (fun c39 => ?_) (fun c39 => ?_)
    · refine jt_go jm_m48 10 1 (f' := (47, [(0, .inr (.inr (3, d, 0))), (1, .inl (nI i))], [.inl (nI 0)], h)) (P := True) rfl trivial ?_
      refine jt_zret jm_m48 11 rfl (Or.inl rfl) ?_
      exact ⟨jt_lb0 (by rw [ls, if_pos d0]; exact c39), rfl⟩
    · refine jt_go jm_m48 8 2 (f' := (47, [(0, .inr (.inr (3, d, 0))), (1, .inl (nI i))], [.inl (nI 1)], h)) (P := True) rfl trivial ?_
      refine jt_zret jm_m48 11 rfl (Or.inr rfl) ?_
      exact ⟨jt_lb1 (by rw [ls, if_pos d0]; exact c39), rfl⟩
  · have d1 : s d 3 = 1 := nI_inj (by omega) (by decide) d1
    show jt_T 48 (48, [(0, .inr (.inr (3, d, 0))), (1, .inl (nI i))], [], h) _
    refine jt_go jm_m48 12 2 (f' := (50, [(0, .inr (.inr (3, d, 0))), (1, .inl (nI i))], [.inl (nI i), .inr (.inr (3, d, 0))], h)) (P := True) rfl trivial ?_
    refine jt_callp (w := .inl (e d i)) jm_m48 14 (mi' := 46) (as := [.inr (.inr (3, d, 0)), .inl (nI i)]) (rest := []) (nxt := 53) rfl rfl jm_m46 rfl rfl (tk_get K Y (by omega) (by assumption) (by omega)) ?_
    refine jt_go jm_m48 15 1 (f' := (56, [(0, .inr (.inr (3, d, 0))), (1, .inl (nI i))], [.inl ((-32768)), .inl (e d i)], h)) (P := True) rfl trivial ?_
    refine jt_icne jm_m48 16 (tgt := 63) (nxt := 59) rfl rfl rfl (fun c56 => ?_) (fun c56 => ?_)
    · refine jt_go jm_m48 19 1 (f' := (64, [(0, .inr (.inr (3, d, 0))), (1, .inl (nI i))], [.inl (nI 0)], h)) (P := True) rfl trivial ?_
      refine jt_zret jm_m48 20 rfl (Or.inl rfl) ?_
      exact ⟨jt_lb0 (by rw [ls, if_neg (by omega), if_pos d1]; exact c56), rfl⟩
    · refine jt_go jm_m48 17 2 (f' := (64, [(0, .inr (.inr (3, d, 0))), (1, .inl (nI i))], [.inl (nI 1)], h)) (P := True) rfl trivial ?_
      refine jt_zret jm_m48 20 rfl (Or.inr rfl) ?_
      exact ⟨jt_lb1 (by rw [ls, if_neg (by omega), if_pos d1]; exact c56), rfl⟩
  · have d0 : ¬ s d 3 = 0 := fun z => d0 (by rw [z]; rfl)
    have d1 : ¬ s d 3 = 1 := fun z => d1 (by rw [z]; rfl)
    show jt_T 48 (65, [(0, .inr (.inr (3, d, 0))), (1, .inl (nI i))], [], h) _
    refine jt_go jm_m48 21 2 (f' := (67, [(0, .inr (.inr (3, d, 0))), (1, .inl (nI i))], [.inl (nI i), .inr (.inr (3, d, 0))], h)) (P := True) rfl trivial ?_
    refine jt_callp (w := .inl (e d i)) jm_m48 23 (mi' := 46) (as := [.inr (.inr (3, d, 0)), .inl (nI i)]) (rest := []) (nxt := 70) rfl rfl jm_m46 rfl rfl (tk_get K Y (by omega) (by assumption) (by omega)) ?_
    refine jt_go jm_m48 24 1 (f' := (72, [(0, .inr (.inr (3, d, 0))), (1, .inl (nI i))], [.inl ((-2147483648)), .inl (e d i)], h)) (P := True) rfl trivial ?_
    refine jt_icne jm_m48 25 (tgt := 79) (nxt := 75) rfl rfl rfl (fun c72 => ?_) (fun c72 => ?_)
    · refine jt_go jm_m48 28 1 (f' := (80, [(0, .inr (.inr (3, d, 0))), (1, .inl (nI i))], [.inl (nI 0)], h)) (P := True) rfl trivial ?_
      refine jt_zret jm_m48 29 rfl (Or.inl rfl) ?_
      exact ⟨jt_lb0 (by rw [ls, if_neg d0, if_neg d1]; exact c72), rfl⟩
    · refine jt_go jm_m48 26 2 (f' := (80, [(0, .inr (.inr (3, d, 0))), (1, .inl (nI i))], [.inl (nI 1)], h)) (P := True) rfl trivial ?_
      refine jt_zret jm_m48 29 rfl (Or.inr rfl) ?_
      exact ⟨jt_lb1 (by rw [ls, if_neg d0, if_neg d1]; exact c72), rfl⟩
set_option maxHeartbeats 4000000 in
set_option maxRecDepth 20000 in
theorem tl_lo {h : jm_M} {k : Nat} (hk : k ≤ 2) : jt_Pu 210 [.inl (nI k)] h (.inl (sp_lo k)) := by
  show jt_T 210 (0, [(0, .inl (nI k))], [], h) _
  refine jt_go jm_m210 0 1 (f' := (1, [(0, .inl (nI k))], [.inl (nI k)], h)) (P := True) rfl trivial ?_
  refine jt_nifne jm_m210 1 (by omega) (tgt := 9) (nxt := 4) rfl rfl rfl (fun c1 => ?_) (fun c1 => ?_)
  · refine jt_go jm_m210 4 2 (f' := (11, [(0, .inl (nI k))], [.inl (nI 1), .inl (nI k)], h)) (P := True) rfl trivial ?_
    refine jt_nicne jm_m210 6 (a := k) (b := 1) (by omega) (by omega) (tgt := 20) (nxt := 14) rfl rfl rfl (fun c11 => ?_) (fun c11 => ?_)
    · refine jt_go jm_m210 9 1 (f' := (22, [(0, .inl (nI k))], [.inl ((-2147483648))], h)) (P := True) rfl trivial ?_
      refine jt_iret jm_m210 10 rfl ?_
      refine ⟨jt_li ?_, rfl⟩
      unfold sp_lo
      first | (rw [if_pos (by omega)]; done) | (rw [if_neg (by omega)]; first | rw [if_pos (by omega)] | rw [if_neg (by omega)])
    · refine jt_go jm_m210 7 2 (f' := (22, [(0, .inl (nI k))], [.inl ((-32768))], h)) (P := True) rfl trivial ?_
      refine jt_iret jm_m210 10 rfl ?_
      refine ⟨jt_li ?_, rfl⟩
      unfold sp_lo
      first | (rw [if_pos (by omega)]; done) | (rw [if_neg (by omega)]; first | rw [if_pos (by omega)] | rw [if_neg (by omega)])
  · refine jt_go jm_m210 2 2 (f' := (22, [(0, .inl (nI k))], [.inl ((-128))], h)) (P := True) rfl trivial ?_
    refine jt_iret jm_m210 10 rfl ?_
    refine ⟨jt_li ?_, rfl⟩
    unfold sp_lo
    first | (rw [if_pos (by omega)]; done) | (rw [if_neg (by omega)]; first | rw [if_pos (by omega)] | rw [if_neg (by omega)])
set_option maxHeartbeats 4000000 in
set_option maxRecDepth 20000 in
theorem ca_judge_l {h : jm_M} {g : Nat → Nat} (W : jw g) {s : Nat → Nat → Nat} {e : Nat → Nat → Int32} (K : jk_rel h s e) (Y : kw s) {d : Nat} (hd : d ≤ 7) (qa : s d 0 = 2)  : ∀ k, k ≤ s d 4 → ∀ hm : jm_M, (jf_rel hm 1 (sp_it g k)) → (jf_fr 1 h hm) → jt_T 120 (33, [(0, .inr (.inr (0, 0, 0))), (1, .inl (nI d)), (2, .inl (nI 0)), (3, .inr (.inr (3, d, 0))), (4, .inl (nI k))], [], hm) (fun u h' => u = some (.inl (jo (sp_fi (fun k => decide (¬ e d k = sp_lo (s d 3) ∧ ¬ e d k = nI (sp_cnt (sp_pb (sp_it g k))))) k (s d 4 - k)))) ∧ jf_fr 1 h h') := jx_up (P := fun k => ∀ hm : jm_M, (jf_rel hm 1 (sp_it g k)) → (jf_fr 1 h hm) → jt_T 120 (33, [(0, .inr (.inr (0, 0, 0))), (1, .inl (nI d)), (2, .inl (nI 0)), (3, .inr (.inr (3, d, 0))), (4, .inl (nI k))], [], hm) (fun u h' => u = some (.inl (jo (sp_fi (fun k => decide (¬ e d k = sp_lo (s d 3) ∧ ¬ e d k = nI (sp_cnt (sp_pb (sp_it g k))))) k (s d 4 - k)))) ∧ jf_fr 1 h h')) (fun k hk nx hm Rm Fm => by
  have Wk := (jw_it W k).1
  have e0 := (jw_it W k).2.1
  have e1 := (jw_it W k).2.2
  have bn := jw_n W
  have bm := jw_m W
  have Km := jk_mvf K Fm
  have bz := kw_z Y (d := d) (by omega) qa
  refine jt_go jm_m120 20 3 (f' := (39, [(0, .inr (.inr (0, 0, 0))), (1, .inl (nI d)), (2, .inl (nI 0)), (3, .inr (.inr (3, d, 0))), (4, .inl (nI k))], [.inl (hm (3, d, 0) 4), .inl (nI k)], hm)) (P := True) rfl trivial ?_
  refine jt_ti (show (hm (3, d, 0) 4) = nI (s d 4) from jk_size Km (d := d) (by omega) (by assumption)) ?_
  have bq1 := kw_z Y (d := d) (by omega) (by assumption)
  refine jt_nicge jm_m120 23 (a := k) (b := s d 4) (by omega) (by omega) (tgt := 86) (nxt := 42) rfl rfl rfl (fun c39 => ?_) (fun c39 => ?_)
  · refine jt_go jm_m120 43 1 (f' := (88, [(0, .inr (.inr (0, 0, 0))), (1, .inl (nI d)), (2, .inl (nI 0)), (3, .inr (.inr (3, d, 0))), (4, .inl (nI k))], [.inl ((-4))], hm)) (P := True) rfl trivial ?_
    refine jt_iret jm_m120 44 rfl ?_
    have eq_ : k = s d 4 := by omega
    subst eq_
    rw [Nat.sub_self]
    exact ⟨rfl, Fm⟩
  · refine jt_go jm_m120 24 2 (f' := (45, [(0, .inr (.inr (0, 0, 0))), (1, .inl (nI d)), (2, .inl (nI 0)), (3, .inr (.inr (3, d, 0))), (4, .inl (nI k))], [.inl (nI k), .inr (.inr (3, d, 0))], hm)) (P := True) rfl trivial ?_
    refine jt_callp (w := .inl (jm_b (e d k = sp_lo (s d 3)))) jm_m120 26 (mi' := 48) (as := [.inr (.inr (3, d, 0)), .inl (nI k)]) (rest := []) (nxt := 48) rfl rfl jm_m48 rfl rfl (tk_skip Km Y (by omega) (by assumption) (by omega)) ?_
    refine jt_ifbne jm_m120 27 (tgt := 73) (nxt := 51) rfl rfl rfl (fun c48 => ?_) (fun c48 => ?_)
    · refine jt_go jm_m120 38 2 (f' := (77, [(0, .inr (.inr (0, 0, 0))), (1, .inl (nI d)), (2, .inl (nI 0)), (3, .inr (.inr (3, d, 0))), (4, .inl (nI k))], [.inr (.inr (2, 1, 0))], hm)) (P := True) rfl trivial ?_
      refine jt_call jm_m120 40 (mi' := 18) (as := [.inr (.inr (2, 1, 0))]) (rest := []) (nxt := 80) rfl rfl jm_m18 rfl rfl (ta_hour Rm Wk) ?_
      rintro u h1 ⟨rfl, Rh1, Fh1, Ch1⟩
      show jt_T 120 (80, [(0, .inr (.inr (0, 0, 0))), (1, .inl (nI d)), (2, .inl (nI 0)), (3, .inr (.inr (3, d, 0))), (4, .inl (nI k))], [], h1) _
      have Rh1 : jf_rel h1 1 (sp_it g (k + 1)) := Rh1
      have Wh1 := (jw_it W (k + 1)).1
      have uh1 := sp_set_lt Wk (kept := false)
      have Fh1 := jf_fr_tr Fm Fh1
      refine jt_inc jm_m120 41 (c := k) (L' := [(4, .inl (nI (k + 1))), (0, .inr (.inr (0, 0, 0))), (1, .inl (nI d)), (2, .inl (nI 0)), (3, .inr (.inr (3, d, 0)))]) rfl rfl rfl rfl ?_
      refine jt_go jm_m120 42 1 (f' := (33, [(4, .inl (nI (k + 1))), (0, .inr (.inr (0, 0, 0))), (1, .inl (nI d)), (2, .inl (nI 0)), (3, .inr (.inr (3, d, 0)))], [], h1)) (P := True) rfl trivial ?_
      refine jt_pick (L' := [(0, .inr (.inr (0, 0, 0))), (1, .inl (nI d)), (2, .inl (nI 0)), (3, .inr (.inr (3, d, 0))), (4, .inl (nI (k + 1)))]) [1, 2, 3, 4, 0] rfl ?_
      rw [sp_fi_neg (by omega) (fun z => (of_decide_eq_true z).1 c48)]
      exact nx (by omega) h1 Rh1 Fh1
    · refine jt_go jm_m120 28 2 (f' := (54, [(0, .inr (.inr (0, 0, 0))), (1, .inl (nI d)), (2, .inl (nI 0)), (3, .inr (.inr (3, d, 0))), (4, .inl (nI k))], [.inl (nI k), .inr (.inr (3, d, 0))], hm)) (P := True) rfl trivial ?_
      refine jt_callp (w := .inl (e d k)) jm_m120 30 (mi' := 46) (as := [.inr (.inr (3, d, 0)), .inl (nI k)]) (rest := []) (nxt := 57) rfl rfl jm_m46 rfl rfl (tk_get Km Y (by omega) (by assumption) (by omega)) ?_
      refine jt_go jm_m120 31 3 (f' := (64, [(0, .inr (.inr (0, 0, 0))), (1, .inl (nI d)), (2, .inl (nI 0)), (3, .inr (.inr (3, d, 0))), (4, .inl (nI k))], [.inl (hm (2, 1, 0) 13), .inl (e d k)], hm)) (P := True) rfl trivial ?_
      refine jt_ti (show (hm (2, 1, 0) 13) = nI (sp_pb (sp_it g k)) from jf_pass Rm) ?_
      have bq2 := jw_pb Wk
      refine jt_callp (w := .inl (nI (sp_cnt (sp_pb (sp_it g k))))) jm_m120 34 (mi' := 238) (as := [.inl (nI (sp_pb (sp_it g k)))]) (rest := [.inl (e d k)]) (nxt := 67) rfl rfl jm_m238 rfl rfl (tj_bits (by omega)) ?_
      have bq3 := sp_cnt_le (sp_pb (sp_it g k)) (by omega)
      refine jt_iceq jm_m120 35 (tgt := 73) (nxt := 70) rfl rfl rfl (fun c67 => ?_) (fun c67 => ?_)
      · refine jt_go jm_m120 38 2 (f' := (77, [(0, .inr (.inr (0, 0, 0))), (1, .inl (nI d)), (2, .inl (nI 0)), (3, .inr (.inr (3, d, 0))), (4, .inl (nI k))], [.inr (.inr (2, 1, 0))], hm)) (P := True) rfl trivial ?_
        refine jt_call jm_m120 40 (mi' := 18) (as := [.inr (.inr (2, 1, 0))]) (rest := []) (nxt := 80) rfl rfl jm_m18 rfl rfl (ta_hour Rm Wk) ?_
        rintro u h2 ⟨rfl, Rh2, Fh2, Ch2⟩
        show jt_T 120 (80, [(0, .inr (.inr (0, 0, 0))), (1, .inl (nI d)), (2, .inl (nI 0)), (3, .inr (.inr (3, d, 0))), (4, .inl (nI k))], [], h2) _
        have Rh2 : jf_rel h2 1 (sp_it g (k + 1)) := Rh2
        have Wh2 := (jw_it W (k + 1)).1
        have uh2 := sp_set_lt Wk (kept := false)
        have Fh2 := jf_fr_tr Fm Fh2
        refine jt_inc jm_m120 41 (c := k) (L' := [(4, .inl (nI (k + 1))), (0, .inr (.inr (0, 0, 0))), (1, .inl (nI d)), (2, .inl (nI 0)), (3, .inr (.inr (3, d, 0)))]) rfl rfl rfl rfl ?_
        refine jt_go jm_m120 42 1 (f' := (33, [(4, .inl (nI (k + 1))), (0, .inr (.inr (0, 0, 0))), (1, .inl (nI d)), (2, .inl (nI 0)), (3, .inr (.inr (3, d, 0)))], [], h2)) (P := True) rfl trivial ?_
        refine jt_pick (L' := [(0, .inr (.inr (0, 0, 0))), (1, .inl (nI d)), (2, .inl (nI 0)), (3, .inr (.inr (3, d, 0))), (4, .inl (nI (k + 1)))]) [1, 2, 3, 4, 0] rfl ?_
        rw [sp_fi_neg (by omega) (fun z => (of_decide_eq_true z).2 c67)]
        exact nx (by omega) h2 Rh2 Fh2
      · refine jt_go jm_m120 36 1 (f' := (72, [(0, .inr (.inr (0, 0, 0))), (1, .inl (nI d)), (2, .inl (nI 0)), (3, .inr (.inr (3, d, 0))), (4, .inl (nI k))], [.inl (nI k)], hm)) (P := True) rfl trivial ?_
        refine jt_iret jm_m120 37 rfl ?_
        rw [sp_fi_pos (by omega) (decide_eq_true ⟨c48, c67⟩)]
        exact ⟨rfl, Fm⟩)
set_option maxHeartbeats 4000000 in
set_option maxRecDepth 20000 in
theorem cb_judge_l {h : jm_M} {g : Nat → Nat} (W : jw g) {s : Nat → Nat → Nat} {e : Nat → Nat → Int32} (K : jl_rel h s e) (Y : kw s) {d : Nat} (hd : d ≤ 7) (qa : s d 0 = 2)  : ∀ k, k ≤ s d 4 → ∀ hm : jm_M, (jg_rel hm 1 (sp_it g k)) → (jg_fr 1 h hm) → jt_T 220 (26, [(0, .inr (.inr (4, 0, 0))), (1, .inl (nI d)), (2, .inl (nI 0)), (3, .inl (nI k))], [], hm) (fun u h' => u = some (.inl (jo (sp_fi (fun k => decide (¬ e d k = sp_lo (s d 3) ∧ ¬ e d k = nI (sp_cnt (sp_pb (sp_it g k))))) k (s d 4 - k)))) ∧ jg_fr 1 h h') := jx_up (P := fun k => ∀ hm : jm_M, (jg_rel hm 1 (sp_it g k)) → (jg_fr 1 h hm) → jt_T 220 (26, [(0, .inr (.inr (4, 0, 0))), (1, .inl (nI d)), (2, .inl (nI 0)), (3, .inl (nI k))], [], hm) (fun u h' => u = some (.inl (jo (sp_fi (fun k => decide (¬ e d k = sp_lo (s d 3) ∧ ¬ e d k = nI (sp_cnt (sp_pb (sp_it g k))))) k (s d 4 - k)))) ∧ jg_fr 1 h h')) (fun k hk nx hm Rm Fm => by
  have Wk := (jw_it W k).1
  have e0 := (jw_it W k).2.1
  have e1 := (jw_it W k).2.2
  have bn := jw_n W
  have bm := jw_m W
  have Km := jl_mvg K Fm
  have bz := kw_z Y (d := d) (by omega) qa
  refine jt_go jm_m220 16 5 (f' := (33, [(0, .inr (.inr (4, 0, 0))), (1, .inl (nI d)), (2, .inl (nI 0)), (3, .inl (nI k))], [.inl (hm (4, 0, 7) (nI d).toNatClampNeg), .inl (nI k)], hm)) (P := vp_in (nI d) 8 ∧ True) rfl ⟨(vp_in_nI (by omega) (by decide)), trivial⟩ ?_
  refine jt_ti (show (hm (4, 0, 7) (nI d).toNatClampNeg) = nI (s d 4) from jl_size Km (d := d) (nI_clamp (by omega)) (by omega) (by assumption)) ?_
  have bq1 := kw_z Y (d := d) (by omega) (by assumption)
  refine jt_nicge jm_m220 21 (a := k) (b := s d 4) (by omega) (by omega) (tgt := 96) (nxt := 36) rfl rfl rfl (fun c33 => ?_) (fun c33 => ?_)
  · refine jt_go jm_m220 53 1 (f' := (98, [(0, .inr (.inr (4, 0, 0))), (1, .inl (nI d)), (2, .inl (nI 0)), (3, .inl (nI k))], [.inl ((-4))], hm)) (P := True) rfl trivial ?_
    refine jt_iret jm_m220 54 rfl ?_
    have eq_ : k = s d 4 := by omega
    subst eq_
    rw [Nat.sub_self]
    exact ⟨rfl, Fm⟩
  · refine jt_go jm_m220 22 5 (f' := (44, [(0, .inr (.inr (4, 0, 0))), (1, .inl (nI d)), (2, .inl (nI 0)), (3, .inl (nI k))], [.inl ((nI 100) * (nI d)), .inr (.inr (4, 0, 8))], hm)) (P := True) rfl trivial ?_
    refine jt_ti (show ((nI 100) * (nI d)) = nI (100 * d) from nI_mul _ _) ?_
    refine jt_go jm_m220 27 2 (f' := (46, [(0, .inr (.inr (4, 0, 0))), (1, .inl (nI d)), (2, .inl (nI 0)), (3, .inl (nI k))], [.inl ((nI (100 * d)) + (nI k)), .inr (.inr (4, 0, 8))], hm)) (P := True) rfl trivial ?_
    refine jt_ti (show ((nI (100 * d)) + (nI k)) = nI (100 * d + k) from nI_add _ _) ?_
    refine jt_go jm_m220 29 1 (f' := (47, [(0, .inr (.inr (4, 0, 0))), (1, .inl (nI d)), (2, .inl (nI 0)), (3, .inl (nI k))], [.inl (hm (4, 0, 8) (nI (100 * d + k)).toNatClampNeg)], hm)) (P := vp_in (nI (100 * d + k)) 800 ∧ True) rfl ⟨(vp_in_nI (by omega) (by decide)), trivial⟩ ?_
    refine jt_ti (show (hm (4, 0, 8) (nI (100 * d + k)).toNatClampNeg) = e d k from jl_cell Km (d := d) (i := k) (nI_clamp (by omega)) (by omega) (by assumption) (by omega)) ?_
    refine jt_go jm_m220 30 6 (f' := (57, [(4, .inl (e d k)), (0, .inr (.inr (4, 0, 0))), (1, .inl (nI d)), (2, .inl (nI 0)), (3, .inl (nI k))], [.inl (hm (4, 0, 6) (nI d).toNatClampNeg), .inl (e d k)], hm)) (P := vp_in (nI d) 8 ∧ True) rfl ⟨(vp_in_nI (by omega) (by decide)), trivial⟩ ?_
    refine jt_ti (show (hm (4, 0, 6) (nI d).toNatClampNeg) = nI (s d 3) from jl_sort Km (d := d) (nI_clamp (by omega)) (by omega) (by assumption)) ?_
    have bq2 := kw_s Y (d := d) (by omega) (by assumption)
    refine jt_callp (w := .inl (sp_lo (s d 3))) jm_m220 36 (mi' := 210) (as := [.inl (nI (s d 3))]) (rest := [.inl (e d k)]) (nxt := 60) rfl rfl jm_m210 rfl rfl (tl_lo (by omega)) ?_
    refine jt_iceq jm_m220 37 (tgt := 80) (nxt := 63) rfl rfl rfl (fun c60 => ?_) (fun c60 => ?_)
    · refine jt_go jm_m220 46 3 (f' := (85, [(4, .inl (e d k)), (0, .inr (.inr (4, 0, 0))), (1, .inl (nI d)), (2, .inl (nI 0)), (3, .inl (nI k))], [.inl (nI 0), .inr (.inr (5, 1, 0))], hm)) (P := True) rfl trivial ?_
      refine jt_call jm_m220 49 (mi' := 163) (as := [.inr (.inr (5, 1, 0)), .inl (nI 0)]) (rest := []) (nxt := 88) rfl rfl jm_m163 rfl rfl (tb_hour0 Rm Wk) ?_
      rintro u h1 ⟨rfl, Rh1, Fh1⟩
      show jt_T 220 (88, [(4, .inl (e d k)), (0, .inr (.inr (4, 0, 0))), (1, .inl (nI d)), (2, .inl (nI 0)), (3, .inl (nI k))], [.inl (nI (sp_set (sp_it g k) false))], h1) _
      have Rh1 : jg_rel h1 1 (sp_it g (k + 1)) := Rh1
      have Wh1 := (jw_it W (k + 1)).1
      have uh1 := sp_set_lt Wk (kept := false)
      have Fh1 := jg_fr_tr Fm Fh1
      refine jt_go jm_m220 50 1 (f' := (90, [(5, .inl (nI (sp_set (sp_it g k) false))), (4, .inl (e d k)), (0, .inr (.inr (4, 0, 0))), (1, .inl (nI d)), (2, .inl (nI 0)), (3, .inl (nI k))], [], h1)) (P := True) rfl trivial ?_
      refine jt_inc jm_m220 51 (c := k) (L' := [(3, .inl (nI (k + 1))), (5, .inl (nI (sp_set (sp_it g k) false))), (4, .inl (e d k)), (0, .inr (.inr (4, 0, 0))), (1, .inl (nI d)), (2, .inl (nI 0))]) rfl rfl rfl rfl ?_
      refine jt_go jm_m220 52 1 (f' := (26, [(3, .inl (nI (k + 1))), (5, .inl (nI (sp_set (sp_it g k) false))), (4, .inl (e d k)), (0, .inr (.inr (4, 0, 0))), (1, .inl (nI d)), (2, .inl (nI 0))], [], h1)) (P := True) rfl trivial ?_
      refine jt_pick (L' := [(0, .inr (.inr (4, 0, 0))), (1, .inl (nI d)), (2, .inl (nI 0)), (3, .inl (nI (k + 1)))]) [3, 4, 5, 0] rfl ?_
      rw [sp_fi_neg (by omega) (fun z => (of_decide_eq_true z).1 c60)]
      exact nx (by omega) h1 Rh1 Fh1
    · refine jt_go jm_m220 38 3 (f' := (69, [(4, .inl (e d k)), (0, .inr (.inr (4, 0, 0))), (1, .inl (nI d)), (2, .inl (nI 0)), (3, .inl (nI k))], [.inr (.inr (5, 1, 0)), .inl (e d k)], hm)) (P := True) rfl trivial ?_
      refine jt_callp (w := .inl (nI (sp_pb (sp_it g k)))) jm_m220 41 (mi' := 165) (as := [.inr (.inr (5, 1, 0))]) (rest := [.inl (e d k)]) (nxt := 72) rfl rfl jm_m165 rfl rfl (tb_passed Rm Wk) ?_
      have bq3 := jw_pb Wk
      refine jt_callp (w := .inl (nI (sp_cnt (sp_pb (sp_it g k))))) jm_m220 42 (mi' := 153) (as := [.inl (nI (sp_pb (sp_it g k)))]) (rest := [.inl (e d k)]) (nxt := 75) rfl rfl jm_m153 rfl rfl (tb_bits (by omega)) ?_
      have bq4 := sp_cnt_le (sp_pb (sp_it g k)) (by omega)
      refine jt_iceq jm_m220 43 (tgt := 80) (nxt := 78) rfl rfl rfl (fun c75 => ?_) (fun c75 => ?_)
      · refine jt_go jm_m220 46 3 (f' := (85, [(4, .inl (e d k)), (0, .inr (.inr (4, 0, 0))), (1, .inl (nI d)), (2, .inl (nI 0)), (3, .inl (nI k))], [.inl (nI 0), .inr (.inr (5, 1, 0))], hm)) (P := True) rfl trivial ?_
        refine jt_call jm_m220 49 (mi' := 163) (as := [.inr (.inr (5, 1, 0)), .inl (nI 0)]) (rest := []) (nxt := 88) rfl rfl jm_m163 rfl rfl (tb_hour0 Rm Wk) ?_
        rintro u h2 ⟨rfl, Rh2, Fh2⟩
        show jt_T 220 (88, [(4, .inl (e d k)), (0, .inr (.inr (4, 0, 0))), (1, .inl (nI d)), (2, .inl (nI 0)), (3, .inl (nI k))], [.inl (nI (sp_set (sp_it g k) false))], h2) _
        have Rh2 : jg_rel h2 1 (sp_it g (k + 1)) := Rh2
        have Wh2 := (jw_it W (k + 1)).1
        have uh2 := sp_set_lt Wk (kept := false)
        have Fh2 := jg_fr_tr Fm Fh2
        refine jt_go jm_m220 50 1 (f' := (90, [(5, .inl (nI (sp_set (sp_it g k) false))), (4, .inl (e d k)), (0, .inr (.inr (4, 0, 0))), (1, .inl (nI d)), (2, .inl (nI 0)), (3, .inl (nI k))], [], h2)) (P := True) rfl trivial ?_
        refine jt_inc jm_m220 51 (c := k) (L' := [(3, .inl (nI (k + 1))), (5, .inl (nI (sp_set (sp_it g k) false))), (4, .inl (e d k)), (0, .inr (.inr (4, 0, 0))), (1, .inl (nI d)), (2, .inl (nI 0))]) rfl rfl rfl rfl ?_
        refine jt_go jm_m220 52 1 (f' := (26, [(3, .inl (nI (k + 1))), (5, .inl (nI (sp_set (sp_it g k) false))), (4, .inl (e d k)), (0, .inr (.inr (4, 0, 0))), (1, .inl (nI d)), (2, .inl (nI 0))], [], h2)) (P := True) rfl trivial ?_
        refine jt_pick (L' := [(0, .inr (.inr (4, 0, 0))), (1, .inl (nI d)), (2, .inl (nI 0)), (3, .inl (nI (k + 1)))]) [3, 4, 5, 0] rfl ?_
        rw [sp_fi_neg (by omega) (fun z => (of_decide_eq_true z).2 c75)]
        exact nx (by omega) h2 Rh2 Fh2
      · refine jt_go jm_m220 44 1 (f' := (79, [(4, .inl (e d k)), (0, .inr (.inr (4, 0, 0))), (1, .inl (nI d)), (2, .inl (nI 0)), (3, .inl (nI k))], [.inl (nI k)], hm)) (P := True) rfl trivial ?_
        refine jt_iret jm_m220 45 rfl ?_
        rw [sp_fi_pos (by omega) (decide_eq_true ⟨c60, c75⟩)]
        exact ⟨rfl, Fm⟩)
def za_judge (g : Nat → Nat) (s : Nat → Nat → Nat) (e : Nat → Nat → Int32) (x : Int32) : Int32 := if zr_h 2 s x = nI 0 then jo (sp_fi (fun k => decide (¬ e x.toNatClampNeg k = sp_lo (s x.toNatClampNeg 3) ∧ ¬ e x.toNatClampNeg k = nI (sp_cnt (sp_pb (sp_it g k))))) 0 (s x.toNatClampNeg 4)) else zr_h 2 s x
set_option maxHeartbeats 4000000 in
set_option maxRecDepth 20000 in
theorem ca_judge {h : jm_M} {s : Nat → Nat → Nat} {e : Nat → Nat → Int32} (K : jk_rel h s e) (Y : kw s) {g : Nat → Nat} (R : jf_rel h 0 g) (W : jw g) {x : Int32} : jt_T 120 (0, [(0, .inr (.inr (0, 0, 0))), (1, .inl (x))], [], h) (fun u h' => u = some (.inl (za_judge g s e x)) ∧ jf_fr 1 h h') := by
  refine jt_go jm_m120 0 2 (f' := (2, [(0, .inr (.inr (0, 0, 0))), (1, .inl (x))], [.inl (x), .inr (.inr (0, 0, 0))], h)) (P := True) rfl trivial ?_
  refine jt_callp (w := .inl (zr_h 2 s x)) jm_m120 2 (mi' := 133) (as := [.inr (.inr (0, 0, 0)), .inl (x)]) (rest := []) (nxt := 5) rfl rfl jm_m133 rfl rfl (tk_row K Y) ?_
  rcases zr_cs (x := x) Y (Or.inr rfl) with ⟨qn, q0⟩ | ⟨d, hd, rfl, qa, q0⟩ | ⟨d, hd, rfl, qa, q0⟩ | ⟨d, hd, rfl, qa, q0⟩
  · refine jt_ti (show zr_h 2 s x = (-1) from q0) ?_
    show jt_T 120 (5, [(0, .inr (.inr (0, 0, 0))), (1, .inl (x))], [.inl ((-1))], h) _
    refine jt_go jm_m120 3 2 (f' := (7, [(2, .inl ((-1))), (0, .inr (.inr (0, 0, 0))), (1, .inl (x))], [.inl ((-1))], h)) (P := True) rfl trivial ?_
    refine jt_ifeq jm_m120 5 (tgt := 12) (nxt := 10) rfl rfl rfl (fun c7 => ?_) (fun c7 => ?_)
    · exact absurd c7 (by decide)
    · refine jt_go jm_m120 6 1 (f' := (11, [(2, .inl ((-1))), (0, .inr (.inr (0, 0, 0))), (1, .inl (x))], [.inl ((-1))], h)) (P := True) rfl trivial ?_
      refine jt_iret jm_m120 7 rfl ?_
      refine ⟨jt_li ?_, jf_fr_rf⟩
      unfold za_judge
      rw [q0]
      rfl
  · refine jt_ti (show zr_h 2 s (nI d) = (-11) from q0) ?_
    show jt_T 120 (5, [(0, .inr (.inr (0, 0, 0))), (1, .inl (nI d))], [.inl ((-11))], h) _
    refine jt_go jm_m120 3 2 (f' := (7, [(2, .inl ((-11))), (0, .inr (.inr (0, 0, 0))), (1, .inl (nI d))], [.inl ((-11))], h)) (P := True) rfl trivial ?_
    refine jt_ifeq jm_m120 5 (tgt := 12) (nxt := 10) rfl rfl rfl (fun c7 => ?_) (fun c7 => ?_)
    · exact absurd c7 (by decide)
    · refine jt_go jm_m120 6 1 (f' := (11, [(2, .inl ((-11))), (0, .inr (.inr (0, 0, 0))), (1, .inl (nI d))], [.inl ((-11))], h)) (P := True) rfl trivial ?_
      refine jt_iret jm_m120 7 rfl ?_
      refine ⟨jt_li ?_, jf_fr_rf⟩
      unfold za_judge
      rw [q0]
      rfl
  · refine jt_ti (show zr_h 2 s (nI d) = (-12) from q0) ?_
    show jt_T 120 (5, [(0, .inr (.inr (0, 0, 0))), (1, .inl (nI d))], [.inl ((-12))], h) _
    refine jt_go jm_m120 3 2 (f' := (7, [(2, .inl ((-12))), (0, .inr (.inr (0, 0, 0))), (1, .inl (nI d))], [.inl ((-12))], h)) (P := True) rfl trivial ?_
    refine jt_ifeq jm_m120 5 (tgt := 12) (nxt := 10) rfl rfl rfl (fun c7 => ?_) (fun c7 => ?_)
    · exact absurd c7 (by decide)
    · refine jt_go jm_m120 6 1 (f' := (11, [(2, .inl ((-12))), (0, .inr (.inr (0, 0, 0))), (1, .inl (nI d))], [.inl ((-12))], h)) (P := True) rfl trivial ?_
      refine jt_iret jm_m120 7 rfl ?_
      refine ⟨jt_li ?_, jf_fr_rf⟩
      unfold za_judge
      rw [q0]
      rfl
  · refine jt_ti (show zr_h 2 s (nI d) = nI 0 from q0) ?_
    show jt_T 120 (5, [(0, .inr (.inr (0, 0, 0))), (1, .inl (nI d))], [.inl (nI 0)], h) _
    refine jt_go jm_m120 3 2 (f' := (7, [(2, .inl (nI 0)), (0, .inr (.inr (0, 0, 0))), (1, .inl (nI d))], [.inl (nI 0)], h)) (P := True) rfl trivial ?_
    refine jt_nifeq jm_m120 5 (by omega) (tgt := 12) (nxt := 10) rfl rfl rfl (fun c7 => ?_) (fun c7 => ?_)
    · refine jt_go jm_m120 8 4 (f' := (18, [(2, .inl (nI 0)), (0, .inr (.inr (0, 0, 0))), (1, .inl (nI d))], [.inr (.inr (3, (nI d).toNatClampNeg, 0))], h)) (P := vp_in (nI d) 8 ∧ True) rfl ⟨(vp_in_nI (by omega) (by decide)), trivial⟩ ?_
      refine jt_tr (show ((3, (nI d).toNatClampNeg, 0) : jm_K) = (3, d, 0) by rw [nI_clamp (by omega)]) ?_
      refine jt_go jm_m120 12 5 (f' := (27, [(3, .inr (.inr (3, d, 0))), (2, .inl (nI 0)), (0, .inr (.inr (0, 0, 0))), (1, .inl (nI d))], [.inr (.inr (2, 0, 0)), .inr (.inr (2, 1, 0))], h)) (P := True) rfl trivial ?_
      refine jt_call jm_m120 17 (mi' := 6) (as := [.inr (.inr (2, 1, 0)), .inr (.inr (2, 0, 0))]) (rest := []) (nxt := 30) rfl rfl jm_m6 rfl rfl (ta_becomes R W (by decide)) ?_
      rintro u h1 ⟨rfl, Rh1, Fh1⟩
      show jt_T 120 (30, [(3, .inr (.inr (3, d, 0))), (2, .inl (nI 0)), (0, .inr (.inr (0, 0, 0))), (1, .inl (nI d))], [], h1) _
      have Rh1 : jf_rel h1 1 g := Rh1
      have Wh1 : jw (g) := W
      have Zh1 := jf_mov0 R Fh1
      refine jt_go jm_m120 18 2 (f' := (33, [(4, .inl (nI 0)), (3, .inr (.inr (3, d, 0))), (2, .inl (nI 0)), (0, .inr (.inr (0, 0, 0))), (1, .inl (nI d))], [], h1)) (P := True) rfl trivial ?_
      refine jt_pick (L' := [(0, .inr (.inr (0, 0, 0))), (1, .inl (nI d)), (2, .inl (nI 0)), (3, .inr (.inr (3, d, 0))), (4, .inl (nI 0))]) [3, 4, 2, 1, 0] rfl ?_
      refine jt_mono (ca_judge_l W K Y hd qa 0 (Nat.zero_le _) h1 Rh1 Fh1) (fun u h2 zz => ⟨zz.1.trans (jt_li ?_), zz.2⟩)
      refine Eq.trans ?_ (if_pos q0).symm
      rw [nI_clamp (by omega)]
      rfl
    · exact absurd c7 (by decide)
set_option maxHeartbeats 4000000 in
set_option maxRecDepth 20000 in
theorem cb_judge {h : jm_M} {s : Nat → Nat → Nat} {e : Nat → Nat → Int32} (K : jl_rel h s e) (Y : kw s) {g : Nat → Nat} (R : jg_rel h 0 g) (W : jw g) {x : Int32} : jt_T 220 (0, [(0, .inr (.inr (4, 0, 0))), (1, .inl (x))], [], h) (fun u h' => u = some (.inl (za_judge g s e x)) ∧ jg_fr 1 h h') := by
  refine jt_go jm_m220 0 3 (f' := (3, [(0, .inr (.inr (4, 0, 0))), (1, .inl (x))], [.inl ((-1)), .inl (x), .inr (.inr (4, 0, 0))], h)) (P := True) rfl trivial ?_
  refine jt_callp (w := .inl (zr_h 2 s x)) jm_m220 3 (mi' := 228) (as := [.inr (.inr (4, 0, 0)), .inl (x), .inl ((-1))]) (rest := []) (nxt := 6) rfl rfl jm_m228 rfl rfl (tl_row K Y) ?_
  rcases zr_cs (x := x) Y (Or.inr rfl) with ⟨qn, q0⟩ | ⟨d, hd, rfl, qa, q0⟩ | ⟨d, hd, rfl, qa, q0⟩ | ⟨d, hd, rfl, qa, q0⟩
  · refine jt_ti (show zr_h 2 s x = (-1) from q0) ?_
    show jt_T 220 (6, [(0, .inr (.inr (4, 0, 0))), (1, .inl (x))], [.inl ((-1))], h) _
    refine jt_go jm_m220 4 2 (f' := (8, [(2, .inl ((-1))), (0, .inr (.inr (4, 0, 0))), (1, .inl (x))], [.inl ((-1))], h)) (P := True) rfl trivial ?_
    refine jt_ifeq jm_m220 6 (tgt := 13) (nxt := 11) rfl rfl rfl (fun c8 => ?_) (fun c8 => ?_)
    · exact absurd c8 (by decide)
    · refine jt_go jm_m220 7 1 (f' := (12, [(2, .inl ((-1))), (0, .inr (.inr (4, 0, 0))), (1, .inl (x))], [.inl ((-1))], h)) (P := True) rfl trivial ?_
      refine jt_iret jm_m220 8 rfl ?_
      refine ⟨jt_li ?_, jg_fr_rf⟩
      unfold za_judge
      rw [q0]
      rfl
  · refine jt_ti (show zr_h 2 s (nI d) = (-11) from q0) ?_
    show jt_T 220 (6, [(0, .inr (.inr (4, 0, 0))), (1, .inl (nI d))], [.inl ((-11))], h) _
    refine jt_go jm_m220 4 2 (f' := (8, [(2, .inl ((-11))), (0, .inr (.inr (4, 0, 0))), (1, .inl (nI d))], [.inl ((-11))], h)) (P := True) rfl trivial ?_
    refine jt_ifeq jm_m220 6 (tgt := 13) (nxt := 11) rfl rfl rfl (fun c8 => ?_) (fun c8 => ?_)
    · exact absurd c8 (by decide)
    · refine jt_go jm_m220 7 1 (f' := (12, [(2, .inl ((-11))), (0, .inr (.inr (4, 0, 0))), (1, .inl (nI d))], [.inl ((-11))], h)) (P := True) rfl trivial ?_
      refine jt_iret jm_m220 8 rfl ?_
      refine ⟨jt_li ?_, jg_fr_rf⟩
      unfold za_judge
      rw [q0]
      rfl
  · refine jt_ti (show zr_h 2 s (nI d) = (-12) from q0) ?_
    show jt_T 220 (6, [(0, .inr (.inr (4, 0, 0))), (1, .inl (nI d))], [.inl ((-12))], h) _
    refine jt_go jm_m220 4 2 (f' := (8, [(2, .inl ((-12))), (0, .inr (.inr (4, 0, 0))), (1, .inl (nI d))], [.inl ((-12))], h)) (P := True) rfl trivial ?_
    refine jt_ifeq jm_m220 6 (tgt := 13) (nxt := 11) rfl rfl rfl (fun c8 => ?_) (fun c8 => ?_)
    · exact absurd c8 (by decide)
    · refine jt_go jm_m220 7 1 (f' := (12, [(2, .inl ((-12))), (0, .inr (.inr (4, 0, 0))), (1, .inl (nI d))], [.inl ((-12))], h)) (P := True) rfl trivial ?_
      refine jt_iret jm_m220 8 rfl ?_
      refine ⟨jt_li ?_, jg_fr_rf⟩
      unfold za_judge
      rw [q0]
      rfl
  · refine jt_ti (show zr_h 2 s (nI d) = nI 0 from q0) ?_
    show jt_T 220 (6, [(0, .inr (.inr (4, 0, 0))), (1, .inl (nI d))], [.inl (nI 0)], h) _
    refine jt_go jm_m220 4 2 (f' := (8, [(2, .inl (nI 0)), (0, .inr (.inr (4, 0, 0))), (1, .inl (nI d))], [.inl (nI 0)], h)) (P := True) rfl trivial ?_
    refine jt_nifeq jm_m220 6 (by omega) (tgt := 13) (nxt := 11) rfl rfl rfl (fun c8 => ?_) (fun c8 => ?_)
    · refine jt_go jm_m220 9 4 (f' := (21, [(2, .inl (nI 0)), (0, .inr (.inr (4, 0, 0))), (1, .inl (nI d))], [.inr (.inr (5, 1, 0)), .inr (.inr (5, 0, 0))], h)) (P := True) rfl trivial ?_
      refine jt_call jm_m220 13 (mi' := 146) (as := [.inr (.inr (5, 0, 0)), .inr (.inr (5, 1, 0))]) (rest := []) (nxt := 24) rfl rfl jm_m146 rfl rfl (tb_copies R (by decide)) ?_
      rintro u h1 ⟨rfl, Rh1, Fh1⟩
      show jt_T 220 (24, [(2, .inl (nI 0)), (0, .inr (.inr (4, 0, 0))), (1, .inl (nI d))], [], h1) _
      have Rh1 : jg_rel h1 1 g := Rh1
      have Wh1 : jw (g) := W
      have Zh1 := jg_mov0 R Fh1
      refine jt_go jm_m220 14 2 (f' := (26, [(3, .inl (nI 0)), (2, .inl (nI 0)), (0, .inr (.inr (4, 0, 0))), (1, .inl (nI d))], [], h1)) (P := True) rfl trivial ?_
      refine jt_pick (L' := [(0, .inr (.inr (4, 0, 0))), (1, .inl (nI d)), (2, .inl (nI 0)), (3, .inl (nI 0))]) [2, 3, 1, 0] rfl ?_
      refine jt_mono (cb_judge_l W K Y hd qa 0 (Nat.zero_le _) h1 Rh1 Fh1) (fun u h2 zz => ⟨zz.1.trans (jt_li ?_), zz.2⟩)
      refine Eq.trans ?_ (if_pos q0).symm
      rw [nI_clamp (by omega)]
      rfl
    · exact absurd c8 (by decide)
