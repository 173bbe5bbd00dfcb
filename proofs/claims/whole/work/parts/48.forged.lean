/-! SHELVES: forged. -/
set_option maxRecDepth 100000 in
theorem jx_rr24 : ∀ t, t < 128 → nI t - nI t / nI 24 * nI 24 = nI (t % 24) := by decide +kernel
abbrev fg_ok (g : Nat → Nat) (e : Nat → Nat → Int32) (d c k : Nat) : Prop := (¬ (nI 0 ≤ e d k ∧ e d k ≤ nI 15)) ∨ (0 < k ∧ sp_pace (g (36 + 5 * c)) (g (37 + 5 * c)) ((g 2 + (k - 1)) % 24) < sp_ap (e d k).toNatClampNeg (e d (k - 1)).toNatClampNeg)
def za_forged (g : Nat → Nat) (s : Nat → Nat → Nat) (e : Nat → Nat → Int32) (x y : Int32) : Int32 := if nI 0 ≤ y ∧ y < nI (g 0) then (if zr_h 2 s x = nI 0 then jo (sp_fi (fun k => decide (fg_ok g e x.toNatClampNeg y.toNatClampNeg k)) 0 (s x.toNatClampNeg 4)) else zr_h 2 s x) else (-1)
theorem fg_no0 {g : Nat → Nat} {e : Nat → Nat → Int32} {d c k : Nat} (h : nI 0 ≤ e d k ∧ e d k ≤ nI 15) (hk : k ≤ 0) : ¬ fg_ok g e d c k := fun z => z.elim (fun q => q h) (fun q => absurd q.1 (by omega))
theorem fg_no1 {g : Nat → Nat} {e : Nat → Nat → Int32} {d c k a b : Nat} (h : nI 0 ≤ e d k ∧ e d k ≤ nI 15) (ea : e d (k - 1) = nI a) (eb : e d k = nI b) (ha : a ≤ 15) (hb : b ≤ 15) (hp : sp_ap b a ≤ sp_pace (g (36 + 5 * c)) (g (37 + 5 * c)) ((g 2 + (k - 1)) % 24)) : ¬ fg_ok g e d c k := fun z => z.elim (fun q => q h) (fun q => by
  have := q.2
  rw [ea, eb, nI_clamp (by omega), nI_clamp (by omega)] at this
  omega)
theorem fg_yes {g : Nat → Nat} {e : Nat → Nat → Int32} {d c k a b : Nat} (hk : 0 < k) (ea : e d (k - 1) = nI a) (eb : e d k = nI b) (ha : a ≤ 15) (hb : b ≤ 15) (hp : ¬ sp_ap b a ≤ sp_pace (g (36 + 5 * c)) (g (37 + 5 * c)) ((g 2 + (k - 1)) % 24)) : fg_ok g e d c k := Or.inr ⟨hk, by
  rw [ea, eb, nI_clamp (by omega), nI_clamp (by omega)]
  omega⟩
set_option maxHeartbeats 4000000 in
set_option maxRecDepth 20000 in
theorem ta_cango {h : jm_M} {g : Nat → Nat} (R : jf_rel h 0 g) (W : jw g) {c a b i : Nat} (hc : c < 6) (ha : a ≤ 15) (hb : b ≤ 15) (hi : i < 100) : jt_Pu 119 [.inr (.inr (0, 0, 0)), .inl (nI c), .inl (nI a), .inl (nI b), .inl (nI i)] h (.inl (jm_b (sp_ap b a ≤ sp_pace (g (36 + 5 * c)) (g (37 + 5 * c)) ((g 2 + i) % 24)))) := by
  have bn := jw_n W
  have bm := jw_m W
  have bt := jw_t W
  have ba := sp_ap_lt (a := b) (b := a) (by omega) (by omega)
  have bpc := sp_pace_le (k := g (36 + 5 * c)) (t := (g 2 + i) % 24) (jw_fig W (c := c) (by omega))
  show jt_T 119 (0, [(0, .inr (.inr (0, 0, 0))), (1, .inl (nI c)), (2, .inl (nI a)), (3, .inl (nI b)), (4, .inl (nI i))], [], h) _
  refine jt_go jm_m119 0 4 (f' := (6, [(0, .inr (.inr (0, 0, 0))), (1, .inl (nI c)), (2, .inl (nI a)), (3, .inl (nI b)), (4, .inl (nI i))], [.inl (if 0 ≤ ((nI b) - (nI a)) then ((nI b) - (nI a)) else 0 - ((nI b) - (nI a)))], h)) (P := True) rfl trivial ?_
  refine jt_ti (show (if 0 ≤ ((nI b) - (nI a)) then ((nI b) - (nI a)) else 0 - ((nI b) - (nI a))) = nI (sp_ap b a) from jx_abs16 _ (by omega) _ (by omega)) ?_
  refine jt_go jm_m119 4 6 (f' := (18, [(0, .inr (.inr (0, 0, 0))), (1, .inl (nI c)), (2, .inl (nI a)), (3, .inl (nI b)), (4, .inl (nI i))], [.inl (h (2, 0, 0) 11), .inl (nI c), .inr (.inr (2, 0, 0)), .inl (nI (sp_ap b a))], h)) (P := True) rfl trivial ?_
  refine jt_ti (show (h (2, 0, 0) 11) = nI (g 2) from jf_hour R) ?_
  have bq1 := jw_t W
  refine jt_go jm_m119 10 2 (f' := (21, [(0, .inr (.inr (0, 0, 0))), (1, .inl (nI c)), (2, .inl (nI a)), (3, .inl (nI b)), (4, .inl (nI i))], [.inl ((nI (g 2)) + (nI i)), .inl (nI c), .inr (.inr (2, 0, 0)), .inl (nI (sp_ap b a))], h)) (P := True) rfl trivial ?_
  refine jt_ti (show ((nI (g 2)) + (nI i)) = nI (g 2 + i) from nI_add _ _) ?_
  refine jt_go jm_m119 12 2 (f' := (24, [(0, .inr (.inr (0, 0, 0))), (1, .inl (nI c)), (2, .inl (nI a)), (3, .inl (nI b)), (4, .inl (nI i))], [.inl ((nI (g 2 + i)) - (nI (g 2 + i)) / (nI 24) * (nI 24)), .inl (nI c), .inr (.inr (2, 0, 0)), .inl (nI (sp_ap b a))], h)) (P := ¬ (nI 24) = 0 ∧ True) rfl ⟨(by decide), trivial⟩ ?_
  refine jt_ti (show ((nI (g 2 + i)) - (nI (g 2 + i)) / (nI 24) * (nI 24)) = nI ((g 2 + i) % 24) from jx_rr24 _ (by omega)) ?_
  refine jt_callp (w := .inl (nI (sp_pace (g (36 + 5 * c)) (g (37 + 5 * c)) ((g 2 + i) % 24)))) jm_m119 14 (mi' := 25) (as := [.inr (.inr (2, 0, 0)), .inl (nI c), .inl (nI ((g 2 + i) % 24))]) (rest := [.inl (nI (sp_ap b a))]) (nxt := 27) rfl rfl jm_m25 rfl rfl (ta_paceOf R W (by omega) (by omega)) ?_
  refine jt_nicgt jm_m119 15 (a := sp_ap b a) (b := sp_pace (g (36 + 5 * c)) (g (37 + 5 * c)) ((g 2 + i) % 24)) (by omega) (by omega) (tgt := 34) (nxt := 30) rfl rfl rfl (fun c27 => ?_) (fun c27 => ?_)
  · refine jt_go jm_m119 18 1 (f' := (35, [(0, .inr (.inr (0, 0, 0))), (1, .inl (nI c)), (2, .inl (nI a)), (3, .inl (nI b)), (4, .inl (nI i))], [.inl (nI 0)], h)) (P := True) rfl trivial ?_
    refine jt_zret jm_m119 19 rfl (Or.inl rfl) ?_
    exact ⟨jt_lb0 (by omega), rfl⟩
  · refine jt_go jm_m119 16 2 (f' := (35, [(0, .inr (.inr (0, 0, 0))), (1, .inl (nI c)), (2, .inl (nI a)), (3, .inl (nI b)), (4, .inl (nI i))], [.inl (nI 1)], h)) (P := True) rfl trivial ?_
    refine jt_zret jm_m119 19 rfl (Or.inr rfl) ?_
    exact ⟨jt_lb1 (c27), rfl⟩
set_option maxHeartbeats 4000000 in
set_option maxRecDepth 20000 in
theorem ca_forged_l {h : jm_M} {g : Nat → Nat} (R : jf_rel h 0 g) (W : jw g) {s : Nat → Nat → Nat} {e : Nat → Nat → Int32} (K : jk_rel h s e) (Y : kw s) {d : Nat} (hd : d ≤ 7) (qa : s d 0 = 2) {c : Nat} (hc : c < g 0)  : ∀ k, k ≤ s d 4 → ∀ hm : jm_M, (hm = h) → (0 < k → nI 0 ≤ e d (k - 1) ∧ e d (k - 1) ≤ nI 15) → jt_T 118 (43, [(0, .inr (.inr (0, 0, 0))), (1, .inl (nI d)), (2, .inl (nI c)), (3, .inl (nI 0)), (4, .inr (.inr (3, d, 0))), (5, .inl (nI k))], [], hm) (fun u h' => u = some (.inl (jo (sp_fi (fun k => decide (fg_ok g e d c k)) k (s d 4 - k)))) ∧ h' = h) := jx_up (P := fun k => ∀ hm : jm_M, (hm = h) → (0 < k → nI 0 ≤ e d (k - 1) ∧ e d (k - 1) ≤ nI 15) → jt_T 118 (43, [(0, .inr (.inr (0, 0, 0))), (1, .inl (nI d)), (2, .inl (nI c)), (3, .inl (nI 0)), (4, .inr (.inr (3, d, 0))), (5, .inl (nI k))], [], hm) (fun u h' => u = some (.inl (jo (sp_fi (fun k => decide (fg_ok g e d c k)) k (s d 4 - k)))) ∧ h' = h)) (fun k hk nx hm EQ pl => by
  subst EQ
  have bn := jw_n W
  have bm := jw_m W
  have bt := jw_t W
  have bz := kw_z Y (d := d) (by omega) qa
  refine jt_go jm_m118 25 3 (f' := (50, [(0, .inr (.inr (0, 0, 0))), (1, .inl (nI d)), (2, .inl (nI c)), (3, .inl (nI 0)), (4, .inr (.inr (3, d, 0))), (5, .inl (nI k))], [.inl (hm (3, d, 0) 4), .inl (nI k)], hm)) (P := True) rfl trivial ?_
  refine jt_ti (show (hm (3, d, 0) 4) = nI (s d 4) from jk_size K (d := d) (by omega) (by assumption)) ?_
  have bq1 := kw_z Y (d := d) (by omega) (by assumption)
  refine jt_nicge jm_m118 28 (a := k) (b := s d 4) (by omega) (by omega) (tgt := 108) (nxt := 53) rfl rfl rfl (fun c50 => ?_) (fun c50 => ?_)
  · refine jt_go jm_m118 55 1 (f' := (110, [(0, .inr (.inr (0, 0, 0))), (1, .inl (nI d)), (2, .inl (nI c)), (3, .inl (nI 0)), (4, .inr (.inr (3, d, 0))), (5, .inl (nI k))], [.inl ((-4))], hm)) (P := True) rfl trivial ?_
    refine jt_iret jm_m118 56 rfl ?_
    have eq_ : k = s d 4 := by omega
    subst eq_
    rw [Nat.sub_self]
    exact ⟨rfl, rfl⟩
  · refine jt_go jm_m118 29 2 (f' := (57, [(0, .inr (.inr (0, 0, 0))), (1, .inl (nI d)), (2, .inl (nI c)), (3, .inl (nI 0)), (4, .inr (.inr (3, d, 0))), (5, .inl (nI k))], [.inl (nI k), .inr (.inr (3, d, 0))], hm)) (P := True) rfl trivial ?_
    refine jt_callp (w := .inl (e d k)) jm_m118 31 (mi' := 46) (as := [.inr (.inr (3, d, 0)), .inl (nI k)]) (rest := []) (nxt := 60) rfl rfl jm_m46 rfl rfl (tk_get K Y (by omega) (by assumption) (by omega)) ?_
    refine jt_callp (w := .inl (jm_b (nI 0 ≤ e d k ∧ e d k ≤ nI 15))) jm_m118 32 (mi' := 138) (as := [.inl (e d k)]) (rest := []) (nxt := 63) rfl rfl jm_m138 rfl rfl (ta_place) ?_
    refine jt_ifbeq jm_m118 33 (tgt := 99) (nxt := 66) rfl rfl rfl (fun c63 => ?_) (fun c63 => ?_)
    · refine jt_go jm_m118 51 1 (f' := (101, [(0, .inr (.inr (0, 0, 0))), (1, .inl (nI d)), (2, .inl (nI c)), (3, .inl (nI 0)), (4, .inr (.inr (3, d, 0))), (5, .inl (nI k))], [.inl (nI k)], hm)) (P := True) rfl trivial ?_
      refine jt_iret jm_m118 52 rfl ?_
      rw [sp_fi_pos (by omega) (decide_eq_true (Or.inl c63))]
      exact ⟨rfl, rfl⟩
    · refine jt_go jm_m118 34 1 (f' := (68, [(0, .inr (.inr (0, 0, 0))), (1, .inl (nI d)), (2, .inl (nI c)), (3, .inl (nI 0)), (4, .inr (.inr (3, d, 0))), (5, .inl (nI k))], [.inl (nI k)], hm)) (P := True) rfl trivial ?_
      refine jt_nifle jm_m118 35 (by omega) (tgt := 102) (nxt := 71) rfl rfl rfl (fun c68 => ?_) (fun c68 => ?_)
      · refine jt_inc jm_m118 53 (c := k) (L' := [(5, .inl (nI (k + 1))), (0, .inr (.inr (0, 0, 0))), (1, .inl (nI d)), (2, .inl (nI c)), (3, .inl (nI 0)), (4, .inr (.inr (3, d, 0)))]) rfl rfl rfl rfl ?_
        refine jt_go jm_m118 54 1 (f' := (43, [(5, .inl (nI (k + 1))), (0, .inr (.inr (0, 0, 0))), (1, .inl (nI d)), (2, .inl (nI c)), (3, .inl (nI 0)), (4, .inr (.inr (3, d, 0)))], [], hm)) (P := True) rfl trivial ?_
        refine jt_pick (L' := [(0, .inr (.inr (0, 0, 0))), (1, .inl (nI d)), (2, .inl (nI c)), (3, .inl (nI 0)), (4, .inr (.inr (3, d, 0))), (5, .inl (nI (k + 1)))]) [1, 2, 3, 4, 5, 0] rfl ?_
        rw [sp_fi_neg (by omega) (fun z => fg_no0 c63 (by omega) (of_decide_eq_true z))]
        exact nx (by omega) hm rfl (fun _ => c63)
      · obtain ⟨a, ha, ea⟩ := jx_win (by decide) (pl (by omega))
        obtain ⟨b, hb, eb⟩ := jx_win (by decide) c63
        have bp := sp_ap_lt (a := b) (b := a) (by omega) (by omega)
        have bpc := sp_pace_le (k := g (36 + 5 * c)) (t := (g 2 + (k - 1)) % 24) (jw_fig W (c := c) (by omega))
        refine jt_go jm_m118 36 6 (f' := (79, [(0, .inr (.inr (0, 0, 0))), (1, .inl (nI d)), (2, .inl (nI c)), (3, .inl (nI 0)), (4, .inr (.inr (3, d, 0))), (5, .inl (nI k))], [.inl ((nI k) - (nI 1)), .inr (.inr (3, d, 0)), .inl (nI c), .inr (.inr (0, 0, 0))], hm)) (P := True) rfl trivial ?_
        refine jt_ti (show ((nI k) - (nI 1)) = nI (k - 1) from nI_subN (by omega)) ?_
        refine jt_callp (w := .inl (nI a)) jm_m118 42 (mi' := 46) (as := [.inr (.inr (3, d, 0)), .inl (nI (k - 1))]) (rest := [.inl (nI c), .inr (.inr (0, 0, 0))]) (nxt := 82) rfl rfl jm_m46 rfl rfl (by rw [← ea]; exact tk_get K Y (by omega) (by assumption) (by omega)) ?_
        refine jt_go jm_m118 43 2 (f' := (86, [(0, .inr (.inr (0, 0, 0))), (1, .inl (nI d)), (2, .inl (nI c)), (3, .inl (nI 0)), (4, .inr (.inr (3, d, 0))), (5, .inl (nI k))], [.inl (nI k), .inr (.inr (3, d, 0)), .inl (nI a), .inl (nI c), .inr (.inr (0, 0, 0))], hm)) (P := True) rfl trivial ?_
        refine jt_callp (w := .inl (nI b)) jm_m118 45 (mi' := 46) (as := [.inr (.inr (3, d, 0)), .inl (nI k)]) (rest := [.inl (nI a), .inl (nI c), .inr (.inr (0, 0, 0))]) (nxt := 89) rfl rfl jm_m46 rfl rfl (by rw [← eb]; exact tk_get K Y (by omega) (by assumption) (by omega)) ?_
        refine jt_go jm_m118 46 3 (f' := (93, [(0, .inr (.inr (0, 0, 0))), (1, .inl (nI d)), (2, .inl (nI c)), (3, .inl (nI 0)), (4, .inr (.inr (3, d, 0))), (5, .inl (nI k))], [.inl ((nI k) - (nI 1)), .inl (nI b), .inl (nI a), .inl (nI c), .inr (.inr (0, 0, 0))], hm)) (P := True) rfl trivial ?_
        refine jt_ti (show ((nI k) - (nI 1)) = nI (k - 1) from nI_subN (by omega)) ?_
        refine jt_callp (w := .inl (jm_b (sp_ap b a ≤ sp_pace (g (36 + 5 * c)) (g (37 + 5 * c)) ((g 2 + (k - 1)) % 24)))) jm_m118 49 (mi' := 119) (as := [.inr (.inr (0, 0, 0)), .inl (nI c), .inl (nI a), .inl (nI b), .inl (nI (k - 1))]) (rest := []) (nxt := 96) rfl rfl jm_m119 rfl rfl (ta_cango R W (by omega) (by omega) (by omega) (by omega)) ?_
        refine jt_ifbne jm_m118 50 (tgt := 102) (nxt := 99) rfl rfl rfl (fun c96 => ?_) (fun c96 => ?_)
        · refine jt_inc jm_m118 53 (c := k) (L' := [(5, .inl (nI (k + 1))), (0, .inr (.inr (0, 0, 0))), (1, .inl (nI d)), (2, .inl (nI c)), (3, .inl (nI 0)), (4, .inr (.inr (3, d, 0)))]) rfl rfl rfl rfl ?_
          refine jt_go jm_m118 54 1 (f' := (43, [(5, .inl (nI (k + 1))), (0, .inr (.inr (0, 0, 0))), (1, .inl (nI d)), (2, .inl (nI c)), (3, .inl (nI 0)), (4, .inr (.inr (3, d, 0)))], [], hm)) (P := True) rfl trivial ?_
          refine jt_pick (L' := [(0, .inr (.inr (0, 0, 0))), (1, .inl (nI d)), (2, .inl (nI c)), (3, .inl (nI 0)), (4, .inr (.inr (3, d, 0))), (5, .inl (nI (k + 1)))]) [1, 2, 3, 4, 5, 0] rfl ?_
          rw [sp_fi_neg (by omega) (fun z => fg_no1 c63 ea eb ha hb c96 (of_decide_eq_true z))]
          exact nx (by omega) hm rfl (fun _ => c63)
        · refine jt_go jm_m118 51 1 (f' := (101, [(0, .inr (.inr (0, 0, 0))), (1, .inl (nI d)), (2, .inl (nI c)), (3, .inl (nI 0)), (4, .inr (.inr (3, d, 0))), (5, .inl (nI k))], [.inl (nI k)], hm)) (P := True) rfl trivial ?_
          refine jt_iret jm_m118 52 rfl ?_
          rw [sp_fi_pos (by omega) (decide_eq_true (fg_yes (by omega) ea eb ha hb c96))]
          exact ⟨rfl, rfl⟩)
set_option maxHeartbeats 4000000 in
set_option maxRecDepth 20000 in
theorem cb_forged_l {h : jm_M} {g : Nat → Nat} (R : jg_rel h 0 g) (W : jw g) {s : Nat → Nat → Nat} {e : Nat → Nat → Int32} (K : jl_rel h s e) (Y : kw s) {d : Nat} (hd : d ≤ 7) (qa : s d 0 = 2) {c : Nat} (hc : c < g 0)  : ∀ k, k ≤ s d 4 → ∀ hm : jm_M, (hm = h) → (0 < k → nI 0 ≤ e d (k - 1) ∧ e d (k - 1) ≤ nI 15) → jt_T 219 (26, [(0, .inr (.inr (4, 0, 0))), (1, .inl (nI d)), (2, .inl (nI c)), (3, .inl (nI 0)), (4, .inl (nI k))], [], hm) (fun u h' => u = some (.inl (jo (sp_fi (fun k => decide (fg_ok g e d c k)) k (s d 4 - k)))) ∧ h' = h) := jx_up (P := fun k => ∀ hm : jm_M, (hm = h) → (0 < k → nI 0 ≤ e d (k - 1) ∧ e d (k - 1) ≤ nI 15) → jt_T 219 (26, [(0, .inr (.inr (4, 0, 0))), (1, .inl (nI d)), (2, .inl (nI c)), (3, .inl (nI 0)), (4, .inl (nI k))], [], hm) (fun u h' => u = some (.inl (jo (sp_fi (fun k => decide (fg_ok g e d c k)) k (s d 4 - k)))) ∧ h' = h)) (fun k hk nx hm EQ pl => by
  subst EQ
  have bn := jw_n W
  have bm := jw_m W
  have bt := jw_t W
  have bz := kw_z Y (d := d) (by omega) qa
  refine jt_go jm_m219 17 5 (f' := (34, [(0, .inr (.inr (4, 0, 0))), (1, .inl (nI d)), (2, .inl (nI c)), (3, .inl (nI 0)), (4, .inl (nI k))], [.inl (hm (4, 0, 7) (nI d).toNatClampNeg), .inl (nI k)], hm)) (P := vp_in (nI d) 8 ∧ True) rfl ⟨(vp_in_nI (by omega) (by decide)), trivial⟩ ?_
  refine jt_ti (show (hm (4, 0, 7) (nI d).toNatClampNeg) = nI (s d 4) from jl_size K (d := d) (nI_clamp (by omega)) (by omega) (by assumption)) ?_
  have bq1 := kw_z Y (d := d) (by omega) (by assumption)
  refine jt_nicge jm_m219 22 (a := k) (b := s d 4) (by omega) (by omega) (tgt := 117) (nxt := 37) rfl rfl rfl (fun c34 => ?_) (fun c34 => ?_)
  · refine jt_go jm_m219 68 1 (f' := (119, [(0, .inr (.inr (4, 0, 0))), (1, .inl (nI d)), (2, .inl (nI c)), (3, .inl (nI 0)), (4, .inl (nI k))], [.inl ((-4))], hm)) (P := True) rfl trivial ?_
    refine jt_iret jm_m219 69 rfl ?_
    have eq_ : k = s d 4 := by omega
    subst eq_
    rw [Nat.sub_self]
    exact ⟨rfl, rfl⟩
  · refine jt_go jm_m219 23 5 (f' := (45, [(0, .inr (.inr (4, 0, 0))), (1, .inl (nI d)), (2, .inl (nI c)), (3, .inl (nI 0)), (4, .inl (nI k))], [.inl ((nI 100) * (nI d)), .inr (.inr (4, 0, 8))], hm)) (P := True) rfl trivial ?_
    refine jt_ti (show ((nI 100) * (nI d)) = nI (100 * d) from nI_mul _ _) ?_
    refine jt_go jm_m219 28 2 (f' := (48, [(0, .inr (.inr (4, 0, 0))), (1, .inl (nI d)), (2, .inl (nI c)), (3, .inl (nI 0)), (4, .inl (nI k))], [.inl ((nI (100 * d)) + (nI k)), .inr (.inr (4, 0, 8))], hm)) (P := True) rfl trivial ?_
    refine jt_ti (show ((nI (100 * d)) + (nI k)) = nI (100 * d + k) from nI_add _ _) ?_
    refine jt_go jm_m219 30 1 (f' := (49, [(0, .inr (.inr (4, 0, 0))), (1, .inl (nI d)), (2, .inl (nI c)), (3, .inl (nI 0)), (4, .inl (nI k))], [.inl (hm (4, 0, 8) (nI (100 * d + k)).toNatClampNeg)], hm)) (P := vp_in (nI (100 * d + k)) 800 ∧ True) rfl ⟨(vp_in_nI (by omega) (by decide)), trivial⟩ ?_
    refine jt_ti (show (hm (4, 0, 8) (nI (100 * d + k)).toNatClampNeg) = e d k from jl_cell K (d := d) (i := k) (nI_clamp (by omega)) (by omega) (by assumption) (by omega)) ?_
    refine jt_go jm_m219 31 2 (f' := (53, [(5, .inl (e d k)), (0, .inr (.inr (4, 0, 0))), (1, .inl (nI d)), (2, .inl (nI c)), (3, .inl (nI 0)), (4, .inl (nI k))], [.inl (e d k)], hm)) (P := True) rfl trivial ?_
    refine jt_callp (w := .inl (jm_b (nI 0 ≤ e d k ∧ e d k ≤ nI 15))) jm_m219 33 (mi' := 151) (as := [.inl (e d k)]) (rest := []) (nxt := 56) rfl rfl jm_m151 rfl rfl (tb_place) ?_
    refine jt_ifbeq jm_m219 34 (tgt := 108) (nxt := 59) rfl rfl rfl (fun c56 => ?_) (fun c56 => ?_)
    · refine jt_go jm_m219 64 1 (f' := (110, [(5, .inl (e d k)), (0, .inr (.inr (4, 0, 0))), (1, .inl (nI d)), (2, .inl (nI c)), (3, .inl (nI 0)), (4, .inl (nI k))], [.inl (nI k)], hm)) (P := True) rfl trivial ?_
      refine jt_iret jm_m219 65 rfl ?_
      rw [sp_fi_pos (by omega) (decide_eq_true (Or.inl c56))]
      exact ⟨rfl, rfl⟩
    · refine jt_go jm_m219 35 1 (f' := (61, [(5, .inl (e d k)), (0, .inr (.inr (4, 0, 0))), (1, .inl (nI d)), (2, .inl (nI c)), (3, .inl (nI 0)), (4, .inl (nI k))], [.inl (nI k)], hm)) (P := True) rfl trivial ?_
      refine jt_nifle jm_m219 36 (by omega) (tgt := 111) (nxt := 64) rfl rfl rfl (fun c61 => ?_) (fun c61 => ?_)
      · refine jt_inc jm_m219 66 (c := k) (L' := [(4, .inl (nI (k + 1))), (5, .inl (e d k)), (0, .inr (.inr (4, 0, 0))), (1, .inl (nI d)), (2, .inl (nI c)), (3, .inl (nI 0))]) rfl rfl rfl rfl ?_
        refine jt_go jm_m219 67 1 (f' := (26, [(4, .inl (nI (k + 1))), (5, .inl (e d k)), (0, .inr (.inr (4, 0, 0))), (1, .inl (nI d)), (2, .inl (nI c)), (3, .inl (nI 0))], [], hm)) (P := True) rfl trivial ?_
        refine jt_pick (L' := [(0, .inr (.inr (4, 0, 0))), (1, .inl (nI d)), (2, .inl (nI c)), (3, .inl (nI 0)), (4, .inl (nI (k + 1)))]) [2, 3, 4, 5, 0] rfl ?_
        rw [sp_fi_neg (by omega) (fun z => fg_no0 c56 (by omega) (of_decide_eq_true z))]
        exact nx (by omega) hm rfl (fun _ => c56)
      · obtain ⟨a, ha, ea⟩ := jx_win (by decide) (pl (by omega))
        obtain ⟨b, hb, eb⟩ := jx_win (by decide) c56
        have bp := sp_ap_lt (a := b) (b := a) (by omega) (by omega)
        have bpc := sp_pace_le (k := g (36 + 5 * c)) (t := (g 2 + (k - 1)) % 24) (jw_fig W (c := c) (by omega))
        rw [eb]
        show jt_T 219 (64, [(5, .inl (nI b)), (0, .inr (.inr (4, 0, 0))), (1, .inl (nI d)), (2, .inl (nI c)), (3, .inl (nI 0)), (4, .inl (nI k))], [], hm) _
        refine jt_go jm_m219 37 6 (f' := (74, [(5, .inl (nI b)), (0, .inr (.inr (4, 0, 0))), (1, .inl (nI d)), (2, .inl (nI c)), (3, .inl (nI 0)), (4, .inl (nI k))], [.inl ((nI 100) * (nI d)), .inr (.inr (4, 0, 8)), .inl (nI b)], hm)) (P := True) rfl trivial ?_
        refine jt_ti (show ((nI 100) * (nI d)) = nI (100 * d) from nI_mul _ _) ?_
        refine jt_go jm_m219 43 2 (f' := (77, [(5, .inl (nI b)), (0, .inr (.inr (4, 0, 0))), (1, .inl (nI d)), (2, .inl (nI c)), (3, .inl (nI 0)), (4, .inl (nI k))], [.inl ((nI (100 * d)) + (nI k)), .inr (.inr (4, 0, 8)), .inl (nI b)], hm)) (P := True) rfl trivial ?_
        refine jt_ti (show ((nI (100 * d)) + (nI k)) = nI (100 * d + k) from nI_add _ _) ?_
        refine jt_go jm_m219 45 2 (f' := (79, [(5, .inl (nI b)), (0, .inr (.inr (4, 0, 0))), (1, .inl (nI d)), (2, .inl (nI c)), (3, .inl (nI 0)), (4, .inl (nI k))], [.inl ((nI (100 * d + k)) - (nI 1)), .inr (.inr (4, 0, 8)), .inl (nI b)], hm)) (P := True) rfl trivial ?_
        refine jt_ti (show ((nI (100 * d + k)) - (nI 1)) = nI (100 * d + (k - 1)) from (nI_subN (by omega)).trans (congrArg nI (by omega))) ?_
        refine jt_go jm_m219 47 1 (f' := (80, [(5, .inl (nI b)), (0, .inr (.inr (4, 0, 0))), (1, .inl (nI d)), (2, .inl (nI c)), (3, .inl (nI 0)), (4, .inl (nI k))], [.inl (hm (4, 0, 8) (nI (100 * d + (k - 1))).toNatClampNeg), .inl (nI b)], hm)) (P := vp_in (nI (100 * d + (k - 1))) 800 ∧ True) rfl ⟨(vp_in_nI (by omega) (by decide)), trivial⟩ ?_
        refine jt_ti (show (hm (4, 0, 8) (nI (100 * d + (k - 1))).toNatClampNeg) = nI a from (jl_cell K (d := d) (i := k - 1) (nI_clamp (by omega)) (by omega) (by assumption) (by omega)).trans ea) ?_
        refine jt_callp (w := .inl (nI (sp_ap b a))) jm_m219 48 (mi' := 145) (as := [.inl (nI b), .inl (nI a)]) (rest := []) (nxt := 83) rfl rfl jm_m145 rfl rfl (tb_apart (by omega) (by omega)) ?_
        have bq2 : sp_ap b a < 16 := sp_ap_lt (by omega) (by omega)
        refine jt_go jm_m219 49 7 (f' := (94, [(5, .inl (nI b)), (0, .inr (.inr (4, 0, 0))), (1, .inl (nI d)), (2, .inl (nI c)), (3, .inl (nI 0)), (4, .inl (nI k))], [.inl (hm (5, 0, 0) (nI 2).toNatClampNeg), .inl (nI c), .inr (.inr (5, 0, 0)), .inl (nI (sp_ap b a))], hm)) (P := vp_in (nI 2) 78 ∧ True) rfl ⟨(vp_in_nI (by omega) (by decide)), trivial⟩ ?_
        refine jt_ti (show (hm (5, 0, 0) (nI 2).toNatClampNeg) = nI (g 2) from jg_get R (k := 2) (nI_clamp (by omega)) (by omega)) ?_
        have bq3 := jw_t W
        refine jt_go jm_m219 56 2 (f' := (97, [(5, .inl (nI b)), (0, .inr (.inr (4, 0, 0))), (1, .inl (nI d)), (2, .inl (nI c)), (3, .inl (nI 0)), (4, .inl (nI k))], [.inl ((nI (g 2)) + (nI k)), .inl (nI c), .inr (.inr (5, 0, 0)), .inl (nI (sp_ap b a))], hm)) (P := True) rfl trivial ?_
        refine jt_ti (show ((nI (g 2)) + (nI k)) = nI (g 2 + k) from nI_add _ _) ?_
        refine jt_go jm_m219 58 2 (f' := (99, [(5, .inl (nI b)), (0, .inr (.inr (4, 0, 0))), (1, .inl (nI d)), (2, .inl (nI c)), (3, .inl (nI 0)), (4, .inl (nI k))], [.inl ((nI (g 2 + k)) - (nI 1)), .inl (nI c), .inr (.inr (5, 0, 0)), .inl (nI (sp_ap b a))], hm)) (P := True) rfl trivial ?_
        refine jt_ti (show ((nI (g 2 + k)) - (nI 1)) = nI (g 2 + (k - 1)) from (nI_subN (by omega)).trans (congrArg nI (by omega))) ?_
        refine jt_go jm_m219 60 2 (f' := (102, [(5, .inl (nI b)), (0, .inr (.inr (4, 0, 0))), (1, .inl (nI d)), (2, .inl (nI c)), (3, .inl (nI 0)), (4, .inl (nI k))], [.inl ((nI (g 2 + (k - 1))) - (nI (g 2 + (k - 1))) / (nI 24) * (nI 24)), .inl (nI c), .inr (.inr (5, 0, 0)), .inl (nI (sp_ap b a))], hm)) (P := ¬ (nI 24) = 0 ∧ True) rfl ⟨(by decide), trivial⟩ ?_
        refine jt_ti (show ((nI (g 2 + (k - 1))) - (nI (g 2 + (k - 1))) / (nI 24) * (nI 24)) = nI ((g 2 + (k - 1)) % 24) from jx_rr24 _ (by omega)) ?_
        refine jt_callp (w := .inl (nI (sp_pace (g (36 + 5 * c)) (g (37 + 5 * c)) ((g 2 + (k - 1)) % 24)))) jm_m219 62 (mi' := 158) (as := [.inr (.inr (5, 0, 0)), .inl (nI c), .inl (nI ((g 2 + (k - 1)) % 24))]) (rest := [.inl (nI (sp_ap b a))]) (nxt := 105) rfl rfl jm_m158 rfl rfl (tb_pace R W (by omega) (by omega)) ?_
        refine jt_nicle jm_m219 63 (a := sp_ap b a) (b := sp_pace (g (36 + 5 * c)) (g (37 + 5 * c)) ((g 2 + (k - 1)) % 24)) (by omega) (by omega) (tgt := 111) (nxt := 108) rfl rfl rfl (fun c105 => ?_) (fun c105 => ?_)
        · refine jt_inc jm_m219 66 (c := k) (L' := [(4, .inl (nI (k + 1))), (5, .inl (nI b)), (0, .inr (.inr (4, 0, 0))), (1, .inl (nI d)), (2, .inl (nI c)), (3, .inl (nI 0))]) rfl rfl rfl rfl ?_
          refine jt_go jm_m219 67 1 (f' := (26, [(4, .inl (nI (k + 1))), (5, .inl (nI b)), (0, .inr (.inr (4, 0, 0))), (1, .inl (nI d)), (2, .inl (nI c)), (3, .inl (nI 0))], [], hm)) (P := True) rfl trivial ?_
          refine jt_pick (L' := [(0, .inr (.inr (4, 0, 0))), (1, .inl (nI d)), (2, .inl (nI c)), (3, .inl (nI 0)), (4, .inl (nI (k + 1)))]) [2, 3, 4, 5, 0] rfl ?_
          rw [sp_fi_neg (by omega) (fun z => fg_no1 c56 ea eb ha hb c105 (of_decide_eq_true z))]
          exact nx (by omega) hm rfl (fun _ => c56)
        · refine jt_go jm_m219 64 1 (f' := (110, [(5, .inl (nI b)), (0, .inr (.inr (4, 0, 0))), (1, .inl (nI d)), (2, .inl (nI c)), (3, .inl (nI 0)), (4, .inl (nI k))], [.inl (nI k)], hm)) (P := True) rfl trivial ?_
          refine jt_iret jm_m219 65 rfl ?_
          rw [sp_fi_pos (by omega) (decide_eq_true (fg_yes (by omega) ea eb ha hb (by omega)))]
          exact ⟨rfl, rfl⟩)
set_option maxHeartbeats 4000000 in
set_option maxRecDepth 20000 in
theorem ca_forged {h : jm_M} {s : Nat → Nat → Nat} {e : Nat → Nat → Int32} (K : jk_rel h s e) (Y : kw s) {g : Nat → Nat} (R : jf_rel h 0 g) (W : jw g) {x y : Int32} : jt_T 118 (0, [(0, .inr (.inr (0, 0, 0))), (1, .inl (x)), (2, .inl (y))], [], h) (fun u h' => u = some (.inl (za_forged g s e x y)) ∧ h' = h) := by
  have bn := jw_n W
  have bm := jw_m W
  have bt := jw_t W
  refine jt_go jm_m118 0 1 (f' := (1, [(0, .inr (.inr (0, 0, 0))), (1, .inl (x)), (2, .inl (y))], [.inl (x)], h)) (P := True) rfl trivial ?_
  refine jt_callp (w := .inl (jm_b (nI 0 ≤ x ∧ x ≤ nI 7))) jm_m118 1 (mi' := 137) (as := [.inl (x)]) (rest := []) (nxt := 4) rfl rfl jm_m137 rfl rfl (ta_shelf) ?_
  refine jt_ifbeq jm_m118 2 (tgt := 18) (nxt := 7) rfl rfl rfl (fun c4 => ?_) (fun c4 => ?_)
  · refine jt_go jm_m118 8 1 (f' := (19, [(0, .inr (.inr (0, 0, 0))), (1, .inl (x)), (2, .inl (y))], [.inl ((-1))], h)) (P := True) rfl trivial ?_
    refine jt_iret jm_m118 9 rfl ?_
    have z1 := zr_no (w := 2) (s := s) c4
    refine ⟨jt_li ?_, rfl⟩
    unfold za_forged
    split
    · rw [z1]; rfl
    · rfl
  · refine jt_go jm_m118 3 3 (f' := (12, [(0, .inr (.inr (0, 0, 0))), (1, .inl (x)), (2, .inl (y))], [.inl (y), .inr (.inr (2, 0, 0))], h)) (P := True) rfl trivial ?_
    refine jt_callp (w := .inl (jm_b (nI 0 ≤ y ∧ y < nI (g 0)))) jm_m118 6 (mi' := 7) (as := [.inr (.inr (2, 0, 0)), .inl (y)]) (rest := []) (nxt := 15) rfl rfl jm_m7 rfl rfl (ta_hasCat R W) ?_
    refine jt_ifbne jm_m118 7 (tgt := 20) (nxt := 18) rfl rfl rfl (fun c15 => ?_) (fun c15 => ?_)
    · have r15 := c15
      obtain ⟨c, hbc, rfl⟩ := jx_cat (by omega) r15
      show jt_T 118 (20, [(0, .inr (.inr (0, 0, 0))), (1, .inl (x)), (2, .inl (nI c))], [], h) _
      refine jt_go jm_m118 10 2 (f' := (22, [(0, .inr (.inr (0, 0, 0))), (1, .inl (x)), (2, .inl (nI c))], [.inl (x), .inr (.inr (0, 0, 0))], h)) (P := True) rfl trivial ?_
      refine jt_callp (w := .inl (zr_h 2 s x)) jm_m118 12 (mi' := 133) (as := [.inr (.inr (0, 0, 0)), .inl (x)]) (rest := []) (nxt := 25) rfl rfl jm_m133 rfl rfl (tk_row K Y) ?_
      rcases zr_cs (x := x) Y (Or.inr rfl) with ⟨qn, q0⟩ | ⟨d, hd, rfl, qa, q0⟩ | ⟨d, hd, rfl, qa, q0⟩ | ⟨d, hd, rfl, qa, q0⟩
      · refine jt_ti (show zr_h 2 s x = (-1) from q0) ?_
        show jt_T 118 (25, [(0, .inr (.inr (0, 0, 0))), (1, .inl (x)), (2, .inl (nI c))], [.inl ((-1))], h) _
        refine jt_go jm_m118 13 2 (f' := (27, [(3, .inl ((-1))), (0, .inr (.inr (0, 0, 0))), (1, .inl (x)), (2, .inl (nI c))], [.inl ((-1))], h)) (P := True) rfl trivial ?_
        refine jt_ifeq jm_m118 15 (tgt := 32) (nxt := 30) rfl rfl rfl (fun c27 => ?_) (fun c27 => ?_)
        · exact absurd c27 (by decide)
        · refine jt_go jm_m118 16 1 (f' := (31, [(3, .inl ((-1))), (0, .inr (.inr (0, 0, 0))), (1, .inl (x)), (2, .inl (nI c))], [.inl ((-1))], h)) (P := True) rfl trivial ?_
          refine jt_iret jm_m118 17 rfl ?_
          refine ⟨jt_li ?_, rfl⟩
          refine Eq.trans ?_ (if_pos c15).symm
          rw [q0]
          rfl
      · refine jt_ti (show zr_h 2 s (nI d) = (-11) from q0) ?_
        show jt_T 118 (25, [(0, .inr (.inr (0, 0, 0))), (1, .inl (nI d)), (2, .inl (nI c))], [.inl ((-11))], h) _
        refine jt_go jm_m118 13 2 (f' := (27, [(3, .inl ((-11))), (0, .inr (.inr (0, 0, 0))), (1, .inl (nI d)), (2, .inl (nI c))], [.inl ((-11))], h)) (P := True) rfl trivial ?_
        refine jt_ifeq jm_m118 15 (tgt := 32) (nxt := 30) rfl rfl rfl (fun c27 => ?_) (fun c27 => ?_)
        · exact absurd c27 (by decide)
        · refine jt_go jm_m118 16 1 (f' := (31, [(3, .inl ((-11))), (0, .inr (.inr (0, 0, 0))), (1, .inl (nI d)), (2, .inl (nI c))], [.inl ((-11))], h)) (P := True) rfl trivial ?_
          refine jt_iret jm_m118 17 rfl ?_
          refine ⟨jt_li ?_, rfl⟩
          refine Eq.trans ?_ (if_pos c15).symm
          rw [q0]
          rfl
      · refine jt_ti (show zr_h 2 s (nI d) = (-12) from q0) ?_
        show jt_T 118 (25, [(0, .inr (.inr (0, 0, 0))), (1, .inl (nI d)), (2, .inl (nI c))], [.inl ((-12))], h) _
        refine jt_go jm_m118 13 2 (f' := (27, [(3, .inl ((-12))), (0, .inr (.inr (0, 0, 0))), (1, .inl (nI d)), (2, .inl (nI c))], [.inl ((-12))], h)) (P := True) rfl trivial ?_
        refine jt_ifeq jm_m118 15 (tgt := 32) (nxt := 30) rfl rfl rfl (fun c27 => ?_) (fun c27 => ?_)
        · exact absurd c27 (by decide)
        · refine jt_go jm_m118 16 1 (f' := (31, [(3, .inl ((-12))), (0, .inr (.inr (0, 0, 0))), (1, .inl (nI d)), (2, .inl (nI c))], [.inl ((-12))], h)) (P := True) rfl trivial ?_
          refine jt_iret jm_m118 17 rfl ?_
          refine ⟨jt_li ?_, rfl⟩
          refine Eq.trans ?_ (if_pos c15).symm
          rw [q0]
          rfl
      · refine jt_ti (show zr_h 2 s (nI d) = nI 0 from q0) ?_
        show jt_T 118 (25, [(0, .inr (.inr (0, 0, 0))), (1, .inl (nI d)), (2, .inl (nI c))], [.inl (nI 0)], h) _
        refine jt_go jm_m118 13 2 (f' := (27, [(3, .inl (nI 0)), (0, .inr (.inr (0, 0, 0))), (1, .inl (nI d)), (2, .inl (nI c))], [.inl (nI 0)], h)) (P := True) rfl trivial ?_
        refine jt_nifeq jm_m118 15 (by omega) (tgt := 32) (nxt := 30) rfl rfl rfl (fun c27 => ?_) (fun c27 => ?_)
        · refine jt_go jm_m118 18 4 (f' := (38, [(3, .inl (nI 0)), (0, .inr (.inr (0, 0, 0))), (1, .inl (nI d)), (2, .inl (nI c))], [.inr (.inr (3, (nI d).toNatClampNeg, 0))], h)) (P := vp_in (nI d) 8 ∧ True) rfl ⟨(vp_in_nI (by omega) (by decide)), trivial⟩ ?_
          refine jt_tr (show ((3, (nI d).toNatClampNeg, 0) : jm_K) = (3, d, 0) by rw [nI_clamp (by omega)]) ?_
          refine jt_go jm_m118 22 3 (f' := (43, [(5, .inl (nI 0)), (4, .inr (.inr (3, d, 0))), (3, .inl (nI 0)), (0, .inr (.inr (0, 0, 0))), (1, .inl (nI d)), (2, .inl (nI c))], [], h)) (P := True) rfl trivial ?_
          refine jt_pick (L' := [(0, .inr (.inr (0, 0, 0))), (1, .inl (nI d)), (2, .inl (nI c)), (3, .inl (nI 0)), (4, .inr (.inr (3, d, 0))), (5, .inl (nI 0))]) [3, 4, 5, 2, 1, 0] rfl ?_
          refine jt_mono (ca_forged_l R W K Y hd qa hbc 0 (Nat.zero_le _) h rfl (fun z => absurd z (Nat.lt_irrefl 0))) (fun u h2 zz => ⟨zz.1.trans (jt_li ?_), zz.2⟩)
          refine Eq.trans ?_ ((if_pos q0).symm.trans (if_pos c15).symm)
          rw [nI_clamp (by omega), nI_clamp (by omega)]
          rfl
        · exact absurd c27 (by decide)
    · refine jt_go jm_m118 8 1 (f' := (19, [(0, .inr (.inr (0, 0, 0))), (1, .inl (x)), (2, .inl (y))], [.inl ((-1))], h)) (P := True) rfl trivial ?_
      refine jt_iret jm_m118 9 rfl ?_
      exact ⟨jt_li (if_neg c15).symm, rfl⟩
set_option maxHeartbeats 4000000 in
set_option maxRecDepth 20000 in
theorem cb_forged {h : jm_M} {s : Nat → Nat → Nat} {e : Nat → Nat → Int32} (K : jl_rel h s e) (Y : kw s) {g : Nat → Nat} (R : jg_rel h 0 g) (W : jw g) {x y : Int32} : jt_T 219 (0, [(0, .inr (.inr (4, 0, 0))), (1, .inl (x)), (2, .inl (y))], [], h) (fun u h' => u = some (.inl (za_forged g s e x y)) ∧ h' = h) := by
  have bn := jw_n W
  have bm := jw_m W
  have bt := jw_t W
  refine jt_go jm_m219 0 2 (f' := (2, [(0, .inr (.inr (4, 0, 0))), (1, .inl (x)), (2, .inl (y))], [.inl (y), .inr (.inr (4, 0, 0))], h)) (P := True) rfl trivial ?_
  refine jt_callp (w := .inl (jm_b (nI 0 ≤ y ∧ y < nI (g 0)))) jm_m219 2 (mi' := 149) (as := [.inr (.inr (4, 0, 0)), .inl (y)]) (rest := []) (nxt := 5) rfl rfl jm_m149 rfl rfl (tb_isCat R W) ?_
  refine jt_ifbne jm_m219 3 (tgt := 10) (nxt := 8) rfl rfl rfl (fun c5 => ?_) (fun c5 => ?_)
  · have r5 := c5
    obtain ⟨c, hbc, rfl⟩ := jx_cat (by omega) r5
    show jt_T 219 (10, [(0, .inr (.inr (4, 0, 0))), (1, .inl (x)), (2, .inl (nI c))], [], h) _
    refine jt_go jm_m219 6 3 (f' := (13, [(0, .inr (.inr (4, 0, 0))), (1, .inl (x)), (2, .inl (nI c))], [.inl ((-1)), .inl (x), .inr (.inr (4, 0, 0))], h)) (P := True) rfl trivial ?_
    refine jt_callp (w := .inl (zr_h 2 s x)) jm_m219 9 (mi' := 228) (as := [.inr (.inr (4, 0, 0)), .inl (x), .inl ((-1))]) (rest := []) (nxt := 16) rfl rfl jm_m228 rfl rfl (tl_row K Y) ?_
    rcases zr_cs (x := x) Y (Or.inr rfl) with ⟨qn, q0⟩ | ⟨d, hd, rfl, qa, q0⟩ | ⟨d, hd, rfl, qa, q0⟩ | ⟨d, hd, rfl, qa, q0⟩
    · refine jt_ti (show zr_h 2 s x = (-1) from q0) ?_
      show jt_T 219 (16, [(0, .inr (.inr (4, 0, 0))), (1, .inl (x)), (2, .inl (nI c))], [.inl ((-1))], h) _
      refine jt_go jm_m219 10 2 (f' := (18, [(3, .inl ((-1))), (0, .inr (.inr (4, 0, 0))), (1, .inl (x)), (2, .inl (nI c))], [.inl ((-1))], h)) (P := True) rfl trivial ?_
      refine jt_ifeq jm_m219 12 (tgt := 23) (nxt := 21) rfl rfl rfl (fun c18 => ?_) (fun c18 => ?_)
      · exact absurd c18 (by decide)
      · refine jt_go jm_m219 13 1 (f' := (22, [(3, .inl ((-1))), (0, .inr (.inr (4, 0, 0))), (1, .inl (x)), (2, .inl (nI c))], [.inl ((-1))], h)) (P := True) rfl trivial ?_
        refine jt_iret jm_m219 14 rfl ?_
        refine ⟨jt_li ?_, rfl⟩
        refine Eq.trans ?_ (if_pos c5).symm
        rw [q0]
        rfl
    · refine jt_ti (show zr_h 2 s (nI d) = (-11) from q0) ?_
      show jt_T 219 (16, [(0, .inr (.inr (4, 0, 0))), (1, .inl (nI d)), (2, .inl (nI c))], [.inl ((-11))], h) _
      refine jt_go jm_m219 10 2 (f' := (18, [(3, .inl ((-11))), (0, .inr (.inr (4, 0, 0))), (1, .inl (nI d)), (2, .inl (nI c))], [.inl ((-11))], h)) (P := True) rfl trivial ?_
      refine jt_ifeq jm_m219 12 (tgt := 23) (nxt := 21) rfl rfl rfl (fun c18 => ?_) (fun c18 => ?_)
      · exact absurd c18 (by decide)
      · refine jt_go jm_m219 13 1 (f' := (22, [(3, .inl ((-11))), (0, .inr (.inr (4, 0, 0))), (1, .inl (nI d)), (2, .inl (nI c))], [.inl ((-11))], h)) (P := True) rfl trivial ?_
        refine jt_iret jm_m219 14 rfl ?_
        refine ⟨jt_li ?_, rfl⟩
        refine Eq.trans ?_ (if_pos c5).symm
        rw [q0]
        rfl
    · refine jt_ti (show zr_h 2 s (nI d) = (-12) from q0) ?_
      show jt_T 219 (16, [(0, .inr (.inr (4, 0, 0))), (1, .inl (nI d)), (2, .inl (nI c))], [.inl ((-12))], h) _
      refine jt_go jm_m219 10 2 (f' := (18, [(3, .inl ((-12))), (0, .inr (.inr (4, 0, 0))), (1, .inl (nI d)), (2, .inl (nI c))], [.inl ((-12))], h)) (P := True) rfl trivial ?_
      refine jt_ifeq jm_m219 12 (tgt := 23) (nxt := 21) rfl rfl rfl (fun c18 => ?_) (fun c18 => ?_)
      · exact absurd c18 (by decide)
      · refine jt_go jm_m219 13 1 (f' := (22, [(3, .inl ((-12))), (0, .inr (.inr (4, 0, 0))), (1, .inl (nI d)), (2, .inl (nI c))], [.inl ((-12))], h)) (P := True) rfl trivial ?_
        refine jt_iret jm_m219 14 rfl ?_
        refine ⟨jt_li ?_, rfl⟩
        refine Eq.trans ?_ (if_pos c5).symm
        rw [q0]
        rfl
    · refine jt_ti (show zr_h 2 s (nI d) = nI 0 from q0) ?_
      show jt_T 219 (16, [(0, .inr (.inr (4, 0, 0))), (1, .inl (nI d)), (2, .inl (nI c))], [.inl (nI 0)], h) _
      refine jt_go jm_m219 10 2 (f' := (18, [(3, .inl (nI 0)), (0, .inr (.inr (4, 0, 0))), (1, .inl (nI d)), (2, .inl (nI c))], [.inl (nI 0)], h)) (P := True) rfl trivial ?_
      refine jt_nifeq jm_m219 12 (by omega) (tgt := 23) (nxt := 21) rfl rfl rfl (fun c18 => ?_) (fun c18 => ?_)
      · refine jt_go jm_m219 15 2 (f' := (26, [(4, .inl (nI 0)), (3, .inl (nI 0)), (0, .inr (.inr (4, 0, 0))), (1, .inl (nI d)), (2, .inl (nI c))], [], h)) (P := True) rfl trivial ?_
        refine jt_pick (L' := [(0, .inr (.inr (4, 0, 0))), (1, .inl (nI d)), (2, .inl (nI c)), (3, .inl (nI 0)), (4, .inl (nI 0))]) [2, 3, 4, 1, 0] rfl ?_
        refine jt_mono (cb_forged_l R W K Y hd qa hbc 0 (Nat.zero_le _) h rfl (fun z => absurd z (Nat.lt_irrefl 0))) (fun u h2 zz => ⟨zz.1.trans (jt_li ?_), zz.2⟩)
        refine Eq.trans ?_ ((if_pos q0).symm.trans (if_pos c5).symm)
        rw [nI_clamp (by omega), nI_clamp (by omega)]
        rfl
      · exact absurd c18 (by decide)
  · refine jt_go jm_m219 4 1 (f' := (9, [(0, .inr (.inr (4, 0, 0))), (1, .inl (x)), (2, .inl (y))], [.inl ((-1))], h)) (P := True) rfl trivial ?_
    refine jt_iret jm_m219 5 rfl ?_
    exact ⟨jt_li (if_neg c5).symm, rfl⟩
