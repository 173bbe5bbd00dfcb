/-! THE FACE: good, first, deserted. -/
/-- an hour's own for a cat: its kind and name stay, its hair grows -/
theorem sp_cats_cat {g : Nat → Nat} (W : jw g) {d : Nat} (hd : d < g 0) : ∀ c, c ≤ g 0 → (sp_cats g false c).1 (36 + 5 * d) = g (36 + 5 * d) ∧ (sp_cats g false c).1 (40 + 5 * d) = g (40 + 5 * d) ∧ (sp_cats g false c).1 (39 + 5 * d) = if d < c then min 99 (g (39 + 5 * d) + sp_grow (g (36 + 5 * d))) else g (39 + 5 * d) := by
  have hn := jw_n W
  intro c
  induction c with
  | zero => intro _; exact ⟨rfl, rfl, (if_neg (by omega)).symm⟩
  | succ c ih =>
    intro hc
    obtain ⟨h1, h2, h3⟩ := ih (by omega)
    have hw := jw_cats W (kept := false) c (by omega)
    have h0 : (sp_cats g false c).1 0 = g 0 := hw.2.1 0 (by decide)
    have hc2 : c < (sp_cats g false c).1 0 := by omega
    have ne : ∀ i, ¬ (4 ≤ i ∧ i < 20) → i ≠ 38 + 5 * c → i ≠ 39 + 5 * c → i < 66 → sp_one (sp_cats g false c).1 c false i = (sp_cats g false c).1 i := fun i a1 a2 a3 a4 => sp_one_ne hw.1 hc2 a1 a2 a3 a4
    refine ⟨?_, ?_, ?_⟩
    · show sp_one (sp_cats g false c).1 c false (36 + 5 * d) = _
      rw [ne _ (by omega) (by omega) (by omega) (by omega)]; exact h1
    · show sp_one (sp_cats g false c).1 c false (40 + 5 * d) = _
      rw [ne _ (by omega) (by omega) (by omega) (by omega)]; exact h2
    · show sp_one (sp_cats g false c).1 c false (39 + 5 * d) = _
      by_cases e : d = c
      · subst e
        have hg0 : sp_gone (sp_cats g false d).1 d false 0 = (sp_cats g false d).1 0 := sp_gone_ne hw.1 hc2 (by omega) (by omega) (by omega)
        have e2 : sp_one (sp_cats g false d).1 d false (39 + 5 * d) = sp_gone (sp_cats g false d).1 d false (39 + 5 * d) := by
          unfold sp_one
          split
          · exact sp_pass_ne (jw_gone hw.1 hc2) (by rw [hg0]; exact hc2) (by omega)
          · rfl
        rw [e2, sp_gone_hair hw.1 hc2, h1, h3, if_neg (by omega), if_pos (by omega)]
      · rw [ne _ (by omega) (by omega) (by omega) (by omega), h3]
        by_cases q : d < c
        · rw [if_pos q, if_pos (by omega)]
        · rw [if_neg q, if_neg (by omega)]
theorem sp_hour_cat {g : Nat → Nat} (W : jw g) {d : Nat} (hd : d < g 0) : sp_hour g false (36 + 5 * d) = g (36 + 5 * d) ∧ sp_hour g false (40 + 5 * d) = g (40 + 5 * d) ∧ sp_hour g false (39 + 5 * d) = min 99 (g (39 + 5 * d) + sp_grow (g (36 + 5 * d))) := by
  obtain ⟨h1, h2, h3⟩ := sp_cats_cat W hd (g 0) (Nat.le_refl _)
  rw [if_pos hd] at h3
  exact ⟨(sp_clock_ne (by omega) (by omega)).trans h1, (sp_clock_ne (by omega) (by omega)).trans h2, (sp_clock_ne (by omega) (by omega)).trans h3⟩
/-- hair alone -/
def sp_hs (g : Nat → Nat) (c : Nat) : Nat → Nat → Nat
  | 0 => g
  | k + 1 => sp_hair (sp_hs g c k) c
theorem jw_hs {g : Nat → Nat} (W : jw g) {c : Nat} (hc : c < g 0) : ∀ k, jw (sp_hs g c k) ∧ sp_hs g c k 0 = g 0 := by
  intro k
  induction k with
  | zero => exact ⟨W, rfl⟩
  | succ k ih => exact ⟨jw_hairs ih.1 (by rw [ih.2]; exact hc), (sp_up_ne (by omega)).trans ih.2⟩
theorem sp_hs_it {g : Nat → Nat} (W : jw g) {c : Nat} (hc : c < g 0) : ∀ k, sp_hs g c k (36 + 5 * c) = sp_it g k (36 + 5 * c) ∧ sp_hs g c k (40 + 5 * c) = sp_it g k (40 + 5 * c) ∧ sp_hs g c k (39 + 5 * c) = sp_it g k (39 + 5 * c) := by
  intro k
  induction k with
  | zero => exact ⟨rfl, rfl, rfl⟩
  | succ k ih =>
    obtain ⟨h1, h2, h3⟩ := ih
    have w := jw_it W k
    obtain ⟨a1, a2, a3⟩ := sp_hour_cat w.1 (d := c) (by omega)
    have n : ∀ i, i ≠ 39 + 5 * c → sp_hs g c (k + 1) i = sp_hs g c k i := fun i hi => sp_up_ne hi
    refine ⟨(n _ (by omega)).trans (h1.trans a1.symm), (n _ (by omega)).trans (h2.trans a2.symm), ?_⟩
    have e : sp_hs g c (k + 1) (39 + 5 * c) = min 99 (sp_hs g c k (39 + 5 * c) + sp_grow (sp_hs g c k (36 + 5 * c))) := sp_up_eq rfl
    rw [e, h1, h3]
    exact a3.symm
theorem sp_hs_read {g : Nat → Nat} (W : jw g) {c : Nat} (hc : c < g 0) (k : Nat) : sp_read (sp_hs g c k) c ↔ sp_read (sp_it g k) c := by
  obtain ⟨h1, h2, h3⟩ := sp_hs_it W hc k
  show (¬ _ = 9 ∧ _) ↔ (¬ _ = 9 ∧ _)
  rw [h1, h2, h3]
def jn99 : Option Nat → Int32
  | none => nI 99
  | some k => nI k
set_option maxHeartbeats 4000000 in
set_option maxRecDepth 20000 in
theorem ca_good_l {h : jm_M} {g : Nat → Nat} (W : jw g) {c : Nat} (hc : c < g 0) : ∀ k, k ≤ 98 → ∀ hm : jm_M, (jf_rel hm 1 (sp_hs g c k)) → (jf_fr 1 h hm) → jt_T 93 (39, [(0, .inr (.inr (0, 0, 0))), (1, .inl (nI c)), (2, .inl (nI (k + 1)))], [], hm) (fun u h' => u = some (.inl (jn99 (sp_fi (fun k => decide (¬ sp_read (sp_it g k) c)) (k + 1) (99 - (k + 1))))) ∧ jf_fr 1 h h') := jx_up (P := fun k => ∀ hm : jm_M, (jf_rel hm 1 (sp_hs g c k)) → (jf_fr 1 h hm) → jt_T 93 (39, [(0, .inr (.inr (0, 0, 0))), (1, .inl (nI c)), (2, .inl (nI (k + 1)))], [], hm) (fun u h' => u = some (.inl (jn99 (sp_fi (fun k => decide (¬ sp_read (sp_it g k) c)) (k + 1) (99 - (k + 1))))) ∧ jf_fr 1 h h')) (fun k hk nx hm Rm Fm => by
  have bn := jw_n W
  have Wk := (jw_hs W hc k).1
  refine jt_go jm_m93 21 2 (f' := (42, [(0, .inr (.inr (0, 0, 0))), (1, .inl (nI c)), (2, .inl (nI (k + 1)))], [.inl (nI 99), .inl (nI (k + 1))], hm)) (P := True) rfl trivial ?_
  refine jt_nicge jm_m93 23 (a := k + 1) (b := 99) (by omega) (by omega) (tgt := 72) (nxt := 45) rfl rfl rfl (fun c42 => ?_) (fun c42 => ?_)
  · refine jt_go jm_m93 37 1 (f' := (74, [(0, .inr (.inr (0, 0, 0))), (1, .inl (nI c)), (2, .inl (nI (k + 1)))], [.inl (nI 99)], hm)) (P := True) rfl trivial ?_
    refine jt_iret jm_m93 38 rfl ?_
    have e : k = 98 := by omega
    subst e
    exact ⟨rfl, Fm⟩
  · refine jt_go jm_m93 24 3 (f' := (50, [(0, .inr (.inr (0, 0, 0))), (1, .inl (nI c)), (2, .inl (nI (k + 1)))], [.inl (nI c), .inr (.inr (2, 1, 0))], hm)) (P := True) rfl trivial ?_
    refine jt_call jm_m93 27 (mi' := 21) (as := [.inr (.inr (2, 1, 0)), .inl (nI c)]) (rest := []) (nxt := 53) rfl rfl jm_m21 rfl rfl (ta_grow Rm Wk (by omega)) ?_
    rintro u h1 ⟨rfl, Rh1, Gh1⟩
    show jt_T 93 (53, [(0, .inr (.inr (0, 0, 0))), (1, .inl (nI c)), (2, .inl (nI (k + 1)))], [], h1) _
    have Rh1 : jf_rel h1 1 (sp_hs g c (k + 1)) := Rh1
    have Wh1 := (jw_hs W hc (k + 1)).1
    have Fh1 := jf_fr_tr Fm Gh1.1
    refine jt_go jm_m93 28 3 (f' := (58, [(0, .inr (.inr (0, 0, 0))), (1, .inl (nI c)), (2, .inl (nI (k + 1)))], [.inl (nI c), .inr (.inr (2, 1, 0))], h1)) (P := True) rfl trivial ?_
    refine jt_callp (w := .inl (jm_b (sp_read (sp_hs g c (k + 1)) c))) jm_m93 31 (mi' := 26) (as := [.inr (.inr (2, 1, 0)), .inl (nI c)]) (rest := []) (nxt := 61) rfl rfl jm_m26 rfl rfl (ta_read Rh1 Wh1 (by omega)) ?_
    refine jt_ifbne jm_m93 32 (tgt := 66) (nxt := 64) rfl rfl rfl (fun c61 => ?_) (fun c61 => ?_)
    · refine jt_inc jm_m93 35 (c := k + 1) (L' := [(2, .inl (nI (k + 1 + 1))), (0, .inr (.inr (0, 0, 0))), (1, .inl (nI c))]) rfl rfl rfl rfl ?_
      refine jt_go jm_m93 36 1 (f' := (39, [(2, .inl (nI (k + 1 + 1))), (0, .inr (.inr (0, 0, 0))), (1, .inl (nI c))], [], h1)) (P := True) rfl trivial ?_
      refine jt_pick (L' := [(0, .inr (.inr (0, 0, 0))), (1, .inl (nI c)), (2, .inl (nI (k + 1 + 1)))]) [1, 2, 0] rfl ?_
      rw [sp_fi_neg (P := fun k => decide (¬ sp_read (sp_it g k) c)) (k := k + 1) (n := 99) (by omega) (fun z => absurd ((sp_hs_read W hc _).mp c61) (of_decide_eq_true (p := ¬ sp_read (sp_it g (k + 1)) c) z))]
      exact nx (by omega) h1 Rh1 Fh1
    · refine jt_go jm_m93 33 1 (f' := (65, [(0, .inr (.inr (0, 0, 0))), (1, .inl (nI c)), (2, .inl (nI (k + 1)))], [.inl (nI (k + 1))], h1)) (P := True) rfl trivial ?_
      refine jt_iret jm_m93 34 rfl ?_
      rw [sp_fi_pos (by omega) (decide_eq_true (p := ¬ sp_read (sp_it g (k + 1)) c) (fun z => c61 ((sp_hs_read W hc _).mpr z)))]
      exact ⟨rfl, Fh1⟩)
def zb_good (g : Nat → Nat) (c : Nat) : Int32 := jn99 (sp_fi (fun k => decide (¬ sp_read (sp_it g k) c)) 0 99)
def za_good (g : Nat → Nat) (x : Int32) : Int32 := if nI 0 ≤ x ∧ x < nI (g 0) then zb_good g x.toNatClampNeg else (-1)
set_option maxHeartbeats 4000000 in
set_option maxRecDepth 20000 in
theorem ca_good {h : jm_M} {g : Nat → Nat} (R : jf_rel h 0 g) (W : jw g) {x : Int32} : jt_T 93 (0, [(0, .inr (.inr (0, 0, 0))), (1, .inl (x))], [], h) (fun u h' => u = some (.inl (za_good g x)) ∧ jf_fr 1 h h') := by
  have bn := jw_n W
  have bm := jw_m W
  have bt := jw_t W
  refine jt_go jm_m93 0 3 (f' := (5, [(0, .inr (.inr (0, 0, 0))), (1, .inl (x))], [.inl (x), .inr (.inr (2, 0, 0))], h)) (P := True) rfl trivial ?_
  refine jt_callp (w := .inl (jm_b (nI 0 ≤ x ∧ x < nI (g 0)))) jm_m93 3 (mi' := 7) (as := [.inr (.inr (2, 0, 0)), .inl (x)]) (rest := []) (nxt := 8) rfl rfl jm_m7 rfl rfl (ta_hasCat R W) ?_
  refine jt_ifbne jm_m93 4 (tgt := 13) (nxt := 11) rfl rfl rfl (fun c8 => ?_) (fun c8 => ?_)
  · obtain ⟨c, hbc, rfl⟩ := jx_cat (by omega) c8
    refine jt_go jm_m93 7 3 (f' := (18, [(0, .inr (.inr (0, 0, 0))), (1, .inl (nI c))], [.inl (nI c), .inr (.inr (2, 0, 0))], h)) (P := True) rfl trivial ?_
    refine jt_callp (w := .inl (jm_b (sp_read g c))) jm_m93 10 (mi' := 26) (as := [.inr (.inr (2, 0, 0)), .inl (nI c)]) (rest := []) (nxt := 21) rfl rfl jm_m26 rfl rfl (ta_read R W (by omega)) ?_
    refine jt_ifbne jm_m93 11 (tgt := 26) (nxt := 24) rfl rfl rfl (fun c21 => ?_) (fun c21 => ?_)
    · refine jt_go jm_m93 14 4 (f' := (34, [(0, .inr (.inr (0, 0, 0))), (1, .inl (nI c))], [.inr (.inr (2, 0, 0)), .inr (.inr (2, 1, 0))], h)) (P := True) rfl trivial ?_
      refine jt_call jm_m93 18 (mi' := 6) (as := [.inr (.inr (2, 1, 0)), .inr (.inr (2, 0, 0))]) (rest := []) (nxt := 37) rfl rfl jm_m6 rfl rfl (ta_becomes R W (by decide)) ?_
      rintro u h1 ⟨rfl, Rh1, Fh1⟩
      show jt_T 93 (37, [(0, .inr (.inr (0, 0, 0))), (1, .inl (nI c))], [], h1) _
      have Rh1 : jf_rel h1 1 g := Rh1
      have Wh1 : jw (g) := W
      have Zh1 := jf_mov0 R Fh1
      refine jt_go jm_m93 19 2 (f' := (39, [(2, .inl (nI 1)), (0, .inr (.inr (0, 0, 0))), (1, .inl (nI c))], [], h1)) (P := True) rfl trivial ?_
      refine jt_pick (L' := [(0, .inr (.inr (0, 0, 0))), (1, .inl (nI c)), (2, .inl (nI 1))]) [1, 2, 0] rfl ?_
      have e0 : sp_fi (fun k => decide (¬ sp_read (sp_it g k) c)) 0 99 = sp_fi (fun k => decide (¬ sp_read (sp_it g k) c)) (0 + 1) (99 - (0 + 1)) := sp_fi_neg (k := 0) (n := 99) (by decide) (fun z => of_decide_eq_true z c21)
      refine jt_mono (ca_good_l (h := h1) W hbc 0 (Nat.zero_le _) _ Rh1 jf_fr_rf) (fun u h2 zz => ⟨zz.1.trans (jt_li ?_), jf_fr_tr Fh1 zz.2⟩)
      unfold za_good
      refine Eq.trans ?_ (if_pos c8).symm
      rw [nI_clamp (n := c) (by omega)]
      unfold zb_good
      rw [e0]
    · refine jt_go jm_m93 12 1 (f' := (25, [(0, .inr (.inr (0, 0, 0))), (1, .inl (nI c))], [.inl (nI 0)], h)) (P := True) rfl trivial ?_
      refine jt_iret jm_m93 13 rfl ?_
      refine ⟨jt_li ?_, jf_fr_rf⟩
      unfold za_good
      refine Eq.trans ?_ (if_pos c8).symm
      rw [nI_clamp (n := c) (by omega)]
      unfold zb_good
      have e0 : sp_fi (fun k => decide (¬ sp_read (sp_it g k) c)) 0 99 = some 0 := sp_fi_pos (k := 0) (n := 99) (by decide) (decide_eq_true c21)
      rw [e0]
      rfl
  · refine jt_go jm_m93 5 1 (f' := (12, [(0, .inr (.inr (0, 0, 0))), (1, .inl (x))], [.inl ((-1))], h)) (P := True) rfl trivial ?_
    refine jt_iret jm_m93 6 rfl ?_
    exact ⟨jt_li (if_neg (fun z => c8 z)).symm, jf_fr_rf⟩
set_option maxHeartbeats 4000000 in
set_option maxRecDepth 20000 in
theorem cb_good_l {h : jm_M} {g : Nat → Nat} (W : jw g) {c : Nat} (hc : c < g 0) : ∀ k, k ≤ 99 → ∀ hm : jm_M, (jg_rel hm 1 (sp_it g k)) → (jg_fr 1 h hm) → jt_T 197 (23, [(0, .inr (.inr (4, 0, 0))), (1, .inl (nI c)), (2, .inl (nI k))], [], hm) (fun u h' => u = some (.inl (jn99 (sp_fi (fun k => decide (¬ sp_read (sp_it g k) c)) k (99 - k)))) ∧ jg_fr 1 h h') := jx_up (P := fun k => ∀ hm : jm_M, (jg_rel hm 1 (sp_it g k)) → (jg_fr 1 h hm) → jt_T 197 (23, [(0, .inr (.inr (4, 0, 0))), (1, .inl (nI c)), (2, .inl (nI k))], [], hm) (fun u h' => u = some (.inl (jn99 (sp_fi (fun k => decide (¬ sp_read (sp_it g k) c)) k (99 - k)))) ∧ jg_fr 1 h h')) (fun k hk nx hm Rm Fm => by
  have Wk := (jw_it W k).1
  have e0 := (jw_it W k).2.1
  have e1 := (jw_it W k).2.2
  have bn := jw_n W
  have bm := jw_m W
  refine jt_go jm_m197 13 2 (f' := (26, [(0, .inr (.inr (4, 0, 0))), (1, .inl (nI c)), (2, .inl (nI k))], [.inl (nI 99), .inl (nI k)], hm)) (P := True) rfl trivial ?_
  refine jt_nicge jm_m197 15 (a := k) (b := 99) (by omega) (by omega) (tgt := 57) (nxt := 29) rfl rfl rfl (fun c26 => ?_) (fun c26 => ?_)
  · refine jt_go jm_m197 30 1 (f' := (59, [(0, .inr (.inr (4, 0, 0))), (1, .inl (nI c)), (2, .inl (nI k))], [.inl (nI 99)], hm)) (P := True) rfl trivial ?_
    refine jt_iret jm_m197 31 rfl ?_
    have e : k = 99 := by omega
    subst e
    exact ⟨rfl, Fm⟩
  · refine jt_go jm_m197 16 3 (f' := (34, [(0, .inr (.inr (4, 0, 0))), (1, .inl (nI c)), (2, .inl (nI k))], [.inl (nI c), .inr (.inr (5, 1, 0))], hm)) (P := True) rfl trivial ?_
    refine jt_callp (w := .inl (jm_b (sp_read (sp_it g k) c))) jm_m197 19 (mi' := 160) (as := [.inr (.inr (5, 1, 0)), .inl (nI c)]) (rest := []) (nxt := 37) rfl rfl jm_m160 rfl rfl (tb_read Rm Wk (by omega)) ?_
    refine jt_ifbne jm_m197 20 (tgt := 42) (nxt := 40) rfl rfl rfl (fun c37 => ?_) (fun c37 => ?_)
    · refine jt_go jm_m197 23 3 (f' := (47, [(0, .inr (.inr (4, 0, 0))), (1, .inl (nI c)), (2, .inl (nI k))], [.inl (nI 0), .inr (.inr (5, 1, 0))], hm)) (P := True) rfl trivial ?_
      refine jt_call jm_m197 26 (mi' := 163) (as := [.inr (.inr (5, 1, 0)), .inl (nI 0)]) (rest := []) (nxt := 50) rfl rfl jm_m163 rfl rfl (tb_hour0 Rm Wk) ?_
      rintro u h1 ⟨rfl, Rh1, Fh1⟩
      show jt_T 197 (50, [(0, .inr (.inr (4, 0, 0))), (1, .inl (nI c)), (2, .inl (nI k))], [.inl (nI (sp_set (sp_it g k) false))], h1) _
      have Rh1 : jg_rel h1 1 (sp_it g (k + 1)) := Rh1
      have Wh1 := (jw_it W (k + 1)).1
      have uh1 := sp_set_lt Wk (kept := false)
      have Fh1 := jg_fr_tr Fm Fh1
      refine jt_go jm_m197 27 1 (f' := (51, [(3, .inl (nI (sp_set (sp_it g k) false))), (0, .inr (.inr (4, 0, 0))), (1, .inl (nI c)), (2, .inl (nI k))], [], h1)) (P := True) rfl trivial ?_
      refine jt_inc jm_m197 28 (c := k) (L' := [(2, .inl (nI (k + 1))), (3, .inl (nI (sp_set (sp_it g k) false))), (0, .inr (.inr (4, 0, 0))), (1, .inl (nI c))]) rfl rfl rfl rfl ?_
      refine jt_go jm_m197 29 1 (f' := (23, [(2, .inl (nI (k + 1))), (3, .inl (nI (sp_set (sp_it g k) false))), (0, .inr (.inr (4, 0, 0))), (1, .inl (nI c))], [], h1)) (P := True) rfl trivial ?_
      refine jt_pick (L' := [(0, .inr (.inr (4, 0, 0))), (1, .inl (nI c)), (2, .inl (nI (k + 1)))]) [2, 3, 0] rfl ?_
      rw [sp_fi_neg (P := fun k => decide (¬ sp_read (sp_it g k) c)) (k := k) (n := 99) (by omega) (fun z => absurd c37 (of_decide_eq_true (p := ¬ sp_read (sp_it g k) c) z))]
      exact nx (by omega) h1 Rh1 Fh1
    · refine jt_go jm_m197 21 1 (f' := (41, [(0, .inr (.inr (4, 0, 0))), (1, .inl (nI c)), (2, .inl (nI k))], [.inl (nI k)], hm)) (P := True) rfl trivial ?_
      refine jt_iret jm_m197 22 rfl ?_
      rw [sp_fi_pos (by omega) (decide_eq_true c37)]
      exact ⟨rfl, Fm⟩)
set_option maxHeartbeats 4000000 in
set_option maxRecDepth 20000 in
theorem cb_good {h : jm_M} {g : Nat → Nat} (R : jg_rel h 0 g) (W : jw g) {x : Int32} : jt_T 197 (0, [(0, .inr (.inr (4, 0, 0))), (1, .inl (x))], [], h) (fun u h' => u = some (.inl (za_good g x)) ∧ jg_fr 1 h h') := by
  have bn := jw_n W
  have bm := jw_m W
  have bt := jw_t W
  refine jt_go jm_m197 0 2 (f' := (2, [(0, .inr (.inr (4, 0, 0))), (1, .inl (x))], [.inl (x), .inr (.inr (4, 0, 0))], h)) (P := True) rfl trivial ?_
  refine jt_callp (w := .inl (jm_b (nI 0 ≤ x ∧ x < nI (g 0)))) jm_m197 2 (mi' := 149) (as := [.inr (.inr (4, 0, 0)), .inl (x)]) (rest := []) (nxt := 5) rfl rfl jm_m149 rfl rfl (tb_isCat R W) ?_
  refine jt_ifbne jm_m197 3 (tgt := 10) (nxt := 8) rfl rfl rfl (fun c5 => ?_) (fun c5 => ?_)
  · obtain ⟨c, hbc, rfl⟩ := jx_cat (by omega) c5
    refine jt_go jm_m197 6 4 (f' := (18, [(0, .inr (.inr (4, 0, 0))), (1, .inl (nI c))], [.inr (.inr (5, 1, 0)), .inr (.inr (5, 0, 0))], h)) (P := True) rfl trivial ?_
    refine jt_call jm_m197 10 (mi' := 146) (as := [.inr (.inr (5, 0, 0)), .inr (.inr (5, 1, 0))]) (rest := []) (nxt := 21) rfl rfl jm_m146 rfl rfl (tb_copies R (by decide)) ?_
    rintro u h1 ⟨rfl, Rh1, Fh1⟩
    show jt_T 197 (21, [(0, .inr (.inr (4, 0, 0))), (1, .inl (nI c))], [], h1) _
    have Rh1 : jg_rel h1 1 g := Rh1
    have Wh1 : jw (g) := W
    have Zh1 := jg_mov0 R Fh1
    refine jt_go jm_m197 11 2 (f' := (23, [(2, .inl (nI 0)), (0, .inr (.inr (4, 0, 0))), (1, .inl (nI c))], [], h1)) (P := True) rfl trivial ?_
    refine jt_pick (L' := [(0, .inr (.inr (4, 0, 0))), (1, .inl (nI c)), (2, .inl (nI 0))]) [1, 2, 0] rfl ?_
    refine jt_mono (cb_good_l (h := h1) W hbc 0 (Nat.zero_le _) _ Rh1 jg_fr_rf) (fun u h2 zz => ⟨zz.1.trans (jt_li ?_), jg_fr_tr Fh1 zz.2⟩)
    unfold za_good
    refine Eq.trans ?_ (if_pos c5).symm
    rw [nI_clamp (n := c) (by omega)]
    first | done | rfl
  · refine jt_go jm_m197 4 1 (f' := (9, [(0, .inr (.inr (4, 0, 0))), (1, .inl (x))], [.inl ((-1))], h)) (P := True) rfl trivial ?_
    refine jt_iret jm_m197 5 rfl ?_
    exact ⟨jt_li (if_neg (fun z => c5 z)).symm, jg_fr_rf⟩
def sp_ft (g : Nat → Nat) (p : Nat) : Option Nat := if g (67 + 2 * p) = 1 then none else sp_till g p
/-- who has passed newly behind k + 1 hours -/
def sp_new (g : Nat → Nat) (k p : Nat) : Bool := decide (sp_it g (k + 1) (67 + 2 * p) = 1 ∧ ¬ g (67 + 2 * p) = 1)
theorem sp_ft_lt {g : Nat → Nat} {p w : Nat} (e : sp_ft g p = some w) : w < 100 := by
  unfold sp_ft at e
  split at e
  · cases e
  · exact sp_till_lt e
def sp_fst (g : Nat → Nat) : Option Nat := match sp_fi (fun k => (sp_fi (sp_new g k) 0 (g 1)).isSome) 0 99 with
  | none => none
  | some k => sp_fi (sp_new g k) 0 (g 1)
theorem sp_till_sp (g : Nat → Nat) (p : Nat) : match sp_till g p with
    | none => ∀ k, k < 100 → ¬ sp_it g k (67 + 2 * p) = 1
    | some w => w < 100 ∧ sp_it g w (67 + 2 * p) = 1 ∧ ∀ k, k < w → ¬ sp_it g k (67 + 2 * p) = 1 := by
  rcases e : sp_till g p with _ | w
  · intro k hk z
    exact sp_fi_none _ _ e k (Nat.zero_le _) (by omega) (decide_eq_true z)
  · obtain ⟨_, h2, h3, h4⟩ := sp_fi_some _ _ _ e
    exact ⟨by omega, of_decide_eq_true h3, fun k hk z => h4 k (Nat.zero_le _) hk (decide_eq_true z)⟩
theorem sp_fst_eq (g : Nat → Nat) : sp_fst g = (sp_bst (sp_ft g) (g 1)).map Prod.fst := by
  have hb := sp_bst_sp (F := sp_ft g) (g 1)
  unfold sp_fst
  rcases ek : sp_fi (fun k => (sp_fi (sp_new g k) 0 (g 1)).isSome) 0 99 with _ | k
  · rcases eb : sp_bst (sp_ft g) (g 1) with _ | q
    · rfl
    · exfalso
      rw [eb] at hb
      obtain ⟨h1, h2, -, -⟩ := hb
      unfold sp_ft at h2
      split at h2
      · cases h2
      · rename_i hp
        have ht := sp_till_sp g q.1
        rw [h2] at ht
        obtain ⟨t1, t2, -⟩ := ht
        have h0 : q.2 ≠ 0 := by
          intro z
          rw [z] at t2
          exact hp t2
        have hn := sp_fi_none _ _ ek (q.2 - 1) (Nat.zero_le _) (by omega)
        rcases es : sp_fi (sp_new g (q.2 - 1)) 0 (g 1) with _ | j
        · exact sp_fi_none _ _ es q.1 (Nat.zero_le _) (by omega) (decide_eq_true ⟨by rw [show q.2 - 1 + 1 = q.2 by omega]; exact t2, hp⟩)
        · rw [es] at hn; exact hn rfl
  · obtain ⟨_, k2, k3, k4⟩ := sp_fi_some _ _ _ ek
    dsimp only at k3 ⊢
    rcases es : sp_fi (sp_new g k) 0 (g 1) with _ | j
    · rw [es] at k3; cases k3
    · obtain ⟨_, j2, j3, j4⟩ := sp_fi_some _ _ _ es
      have j5 := of_decide_eq_true j3
      -- the man j has passed first behind k + 1 hours
      have fresh : ∀ p, p < g 1 → ¬ g (67 + 2 * p) = 1 → ∀ i, i < k + 1 → ¬ sp_it g i (67 + 2 * p) = 1 := by
        intro p hp hn i hi z
        rcases Nat.eq_zero_or_pos i with e0 | e0
        · rw [e0] at z; exact hn z
        · have := k4 (i - 1) (Nat.zero_le _) (by omega)
          rcases e2 : sp_fi (sp_new g (i - 1)) 0 (g 1) with _ | j'
          · exact sp_fi_none _ _ e2 p (Nat.zero_le _) (by omega) (decide_eq_true ⟨by rw [show i - 1 + 1 = i by omega]; exact z, hn⟩)
          · rw [e2] at this; exact this rfl
      have fj : sp_ft g j = some (k + 1) := by
        unfold sp_ft
        rw [if_neg j5.2]
        have ht := sp_till_sp g j
        rcases et : sp_till g j with _ | w
        · rw [et] at ht; exact absurd j5.1 (ht (k + 1) (by omega))
        · rw [et] at ht
          obtain ⟨t1, t2, t3⟩ := ht
          have a1 : ¬ w < k + 1 := fun z => fresh j (by omega) j5.2 w z t2
          have a2 : ¬ k + 1 < w := fun z => t3 (k + 1) z j5.1
          rw [show w = k + 1 by omega]
      have fl : ∀ p w, p < g 1 → sp_ft g p = some w → k + 1 ≤ w := by
        intro p w hp hw
        unfold sp_ft at hw
        split at hw
        · cases hw
        · rename_i hn
          have ht := sp_till_sp g p
          rw [hw] at ht
          rcases Nat.lt_or_ge w (k + 1) with z | z
          · exact absurd ht.2.1 (fresh p hp hn w z)
          · exact z
      rcases eb : sp_bst (sp_ft g) (g 1) with _ | q
      · rw [eb] at hb
        rw [hb j (by omega)] at fj
        cases fj
      · rw [eb] at hb
        obtain ⟨h1, h2, h3, h4⟩ := hb
        have b1 := h3 j (k + 1) (by omega) fj
        have b2 := fl q.1 q.2 h1 h2
        have b3 : ¬ j < q.1 := fun z => by have := h4 j (k + 1) z fj; omega
        have b4 : ¬ q.1 < j := by
          intro z
          have h2' := h2
          unfold sp_ft at h2'
          split at h2'
          · cases h2'
          · rename_i hn
            have ht := sp_till_sp g q.1
            rw [h2'] at ht
            exact j4 q.1 (Nat.zero_le _) z (decide_eq_true ⟨by rw [show k + 1 = q.2 by omega]; exact ht.2.1, hn⟩)
        show some j = some q.1
        rw [show j = q.1 by omega]
set_option maxHeartbeats 4000000 in
set_option maxRecDepth 20000 in
theorem ca_first_i {hm : jm_M} {g : Nat → Nat} {Q : Option jm_V → jm_M → Prop} (W : jw g) {k : Nat} (Rm : jf_rel hm 1 (sp_it g (k + 1))) (Zm : jf_rel hm 0 g) (hret : ∀ p, p < g 1 → sp_new g k p = true → (∀ i, i < p → ¬ sp_new g k i = true) → Q (some (.inl (nI p))) hm) (hend : (∀ i, i < g 1 → ¬ sp_new g k i = true) → jt_T 90 (69, [(0, .inr (.inr (0, 0, 0))), (1, .inl (nI (k + 1))), (2, .inl (nI (g 1)))], [], hm) Q) : ∀ p, p ≤ g 1 → (∀ i, i < p → ¬ sp_new g k i = true) → jt_T 90 (28, [(0, .inr (.inr (0, 0, 0))), (1, .inl (nI (k + 1))), (2, .inl (nI p))], [], hm) Q := jx_up (P := fun p => (∀ i, i < p → ¬ sp_new g k i = true) → jt_T 90 (28, [(0, .inr (.inr (0, 0, 0))), (1, .inl (nI (k + 1))), (2, .inl (nI p))], [], hm) Q) (fun p hk nx hno => by
  have Wk := (jw_it W (k + 1)).1
  have e1 := (jw_it W (k + 1)).2.2
  have bn := jw_n W
  have bm := jw_m W
  refine jt_go jm_m90 15 4 (f' := (36, [(0, .inr (.inr (0, 0, 0))), (1, .inl (nI (k + 1))), (2, .inl (nI p))], [.inl (hm (2, 0, 0) 10), .inl (nI p)], hm)) (P := True) rfl trivial ?_
  refine jt_ti (show (hm (2, 0, 0) 10) = nI (g 1) from jf_men Zm) ?_
  have bq1 := jw_m W
  refine jt_nicge jm_m90 19 (a := p) (b := g 1) (by omega) (by omega) (tgt := 69) (nxt := 39) rfl rfl rfl (fun c36 => ?_) (fun c36 => ?_)
  · refine jt_pick (L' := [(0, .inr (.inr (0, 0, 0))), (1, .inl (nI (k + 1))), (2, .inl (nI p))]) [0, 1, 2] rfl ?_
    have e : p = g 1 := by omega
    subst e
    exact hend hno
  · refine jt_go jm_m90 20 3 (f' := (44, [(0, .inr (.inr (0, 0, 0))), (1, .inl (nI (k + 1))), (2, .inl (nI p))], [.inl (nI p), .inr (.inr (2, 1, 0))], hm)) (P := True) rfl trivial ?_
    refine jt_callp (w := .inl (jm_b ((sp_it g (k + 1)) (67 + 2 * p) = 1))) jm_m90 23 (mi' := 10) (as := [.inr (.inr (2, 1, 0)), .inl (nI p)]) (rest := []) (nxt := 47) rfl rfl jm_m10 rfl rfl (ta_hasPassed Rm Wk (by omega)) ?_
    have bq2 := jw_pas Wk (c := p) (by omega)
    refine jt_ifbeq jm_m90 24 (tgt := 63) (nxt := 50) rfl rfl rfl (fun c47 => ?_) (fun c47 => ?_)
    · refine jt_inc jm_m90 32 (c := p) (L' := [(2, .inl (nI (p + 1))), (0, .inr (.inr (0, 0, 0))), (1, .inl (nI (k + 1)))]) rfl rfl rfl rfl ?_
      refine jt_go jm_m90 33 1 (f' := (28, [(2, .inl (nI (p + 1))), (0, .inr (.inr (0, 0, 0))), (1, .inl (nI (k + 1)))], [], hm)) (P := True) rfl trivial ?_
      refine jt_pick (L' := [(0, .inr (.inr (0, 0, 0))), (1, .inl (nI (k + 1))), (2, .inl (nI (p + 1)))]) [1, 2, 0] rfl ?_
      exact nx (by omega) (fun i hi => by
        by_cases e : i = p
        · subst e; intro z; have z := of_decide_eq_true z; first | exact c47 z.1 | exact z.2 c58
        · exact hno i (by omega))
    · refine jt_go jm_m90 25 3 (f' := (55, [(0, .inr (.inr (0, 0, 0))), (1, .inl (nI (k + 1))), (2, .inl (nI p))], [.inl (nI p), .inr (.inr (2, 0, 0))], hm)) (P := True) rfl trivial ?_
      refine jt_callp (w := .inl (jm_b (g (67 + 2 * p) = 1))) jm_m90 28 (mi' := 10) (as := [.inr (.inr (2, 0, 0)), .inl (nI p)]) (rest := []) (nxt := 58) rfl rfl jm_m10 rfl rfl (ta_hasPassed Zm W (by omega)) ?_
      have bq3 := jw_pas W (c := p) (by omega)
      refine jt_ifbne jm_m90 29 (tgt := 63) (nxt := 61) rfl rfl rfl (fun c58 => ?_) (fun c58 => ?_)
      · refine jt_inc jm_m90 32 (c := p) (L' := [(2, .inl (nI (p + 1))), (0, .inr (.inr (0, 0, 0))), (1, .inl (nI (k + 1)))]) rfl rfl rfl rfl ?_
        refine jt_go jm_m90 33 1 (f' := (28, [(2, .inl (nI (p + 1))), (0, .inr (.inr (0, 0, 0))), (1, .inl (nI (k + 1)))], [], hm)) (P := True) rfl trivial ?_
        refine jt_pick (L' := [(0, .inr (.inr (0, 0, 0))), (1, .inl (nI (k + 1))), (2, .inl (nI (p + 1)))]) [1, 2, 0] rfl ?_
        exact nx (by omega) (fun i hi => by
          by_cases e : i = p
          · subst e; intro z; have z := of_decide_eq_true z; first | exact c47 z.1 | exact z.2 c58
          · exact hno i (by omega))
      · refine jt_go jm_m90 30 1 (f' := (62, [(0, .inr (.inr (0, 0, 0))), (1, .inl (nI (k + 1))), (2, .inl (nI p))], [.inl (nI p)], hm)) (P := True) rfl trivial ?_
        refine jt_iret jm_m90 31 rfl ?_
        exact hret p (by omega) (decide_eq_true ⟨c47, c58⟩) hno)
theorem sp_fi_at {P : Nat → Bool} {p n : Nat} (hp : p < n) (h : P p = true) (hno : ∀ i, i < p → ¬ P i = true) : sp_fi P 0 n = some p := by
  rcases e : sp_fi P 0 n with _ | j
  · exact absurd h (sp_fi_none _ _ e p (Nat.zero_le _) (by omega))
  · obtain ⟨_, h2, h3, h4⟩ := sp_fi_some _ _ _ e
    have a1 : ¬ j < p := fun z => hno j z h3
    have a2 : ¬ p < j := fun z => h4 p (Nat.zero_le _) z h
    rw [show j = p by omega]
theorem sp_fi_no {P : Nat → Bool} {n : Nat} (hno : ∀ i, i < n → ¬ P i = true) : sp_fi P 0 n = none := by
  rcases e : sp_fi P 0 n with _ | j
  · rfl
  · obtain ⟨_, h2, h3, _⟩ := sp_fi_some _ _ _ e
    exact absurd h3 (hno j (by omega))
set_option maxHeartbeats 4000000 in
set_option maxRecDepth 20000 in
theorem ca_first_l {h : jm_M} {g : Nat → Nat} (R : jf_rel h 0 g) (W : jw g) : ∀ k, k ≤ 99 → ∀ hm : jm_M, (jf_rel hm 1 (sp_it g k)) → (jf_fr 1 h hm) → jt_T 90 (13, [(0, .inr (.inr (0, 0, 0))), (1, .inl (nI (k + 1)))], [], hm) (fun u h' => u = some (.inl (jo (match sp_fi (fun k => (sp_fi (sp_new g k) 0 (g 1)).isSome) k (99 - k) with | none => none | some k => sp_fi (sp_new g k) 0 (g 1) : Option Nat))) ∧ jf_fr 1 h h') := jx_up (P := fun k => ∀ hm : jm_M, (jf_rel hm 1 (sp_it g k)) → (jf_fr 1 h hm) → jt_T 90 (13, [(0, .inr (.inr (0, 0, 0))), (1, .inl (nI (k + 1)))], [], hm) (fun u h' => u = some (.inl (jo (match sp_fi (fun k => (sp_fi (sp_new g k) 0 (g 1)).isSome) k (99 - k) with | none => none | some k => sp_fi (sp_new g k) 0 (g 1) : Option Nat))) ∧ jf_fr 1 h h')) (fun k hk nx hm Rm Fm => by
  have Wk := (jw_it W k).1
  have e0 := (jw_it W k).2.1
  have e1 := (jw_it W k).2.2
  have bn := jw_n W
  have bm := jw_m W
  have Zm := jf_mov0 R Fm
  refine jt_go jm_m90 7 2 (f' := (16, [(0, .inr (.inr (0, 0, 0))), (1, .inl (nI (k + 1)))], [.inl (nI 99), .inl (nI (k + 1))], hm)) (P := True) rfl trivial ?_
  refine jt_nicgt jm_m90 9 (a := k + 1) (b := 99) (by omega) (by omega) (tgt := 75) (nxt := 19) rfl rfl rfl (fun c16 => ?_) (fun c16 => ?_)
  · refine jt_go jm_m90 36 1 (f' := (77, [(0, .inr (.inr (0, 0, 0))), (1, .inl (nI (k + 1)))], [.inl ((-4))], hm)) (P := True) rfl trivial ?_
    refine jt_iret jm_m90 37 rfl ?_
    have e : k = 99 := by omega
    subst e
    exact ⟨rfl, Fm⟩
  · refine jt_go jm_m90 10 2 (f' := (23, [(0, .inr (.inr (0, 0, 0))), (1, .inl (nI (k + 1)))], [.inr (.inr (2, 1, 0))], hm)) (P := True) rfl trivial ?_
    refine jt_call jm_m90 12 (mi' := 18) (as := [.inr (.inr (2, 1, 0))]) (rest := []) (nxt := 26) rfl rfl jm_m18 rfl rfl (ta_hour Rm Wk) ?_
    rintro u h1 ⟨rfl, Rh1, Fh1, Ch1⟩
    show jt_T 90 (26, [(0, .inr (.inr (0, 0, 0))), (1, .inl (nI (k + 1)))], [], h1) _
    have Rh1 : jf_rel h1 1 (sp_it g (k + 1)) := Rh1
    have Wh1 := (jw_it W (k + 1)).1
    have uh1 := sp_set_lt Wk (kept := false)
    have Zh1 := jf_mov0 Zm Fh1
    have Fh1 := jf_fr_tr Fm Fh1
    refine jt_go jm_m90 13 2 (f' := (28, [(2, .inl (nI 0)), (0, .inr (.inr (0, 0, 0))), (1, .inl (nI (k + 1)))], [], h1)) (P := True) rfl trivial ?_
    refine jt_pick (L' := [(0, .inr (.inr (0, 0, 0))), (1, .inl (nI (k + 1))), (2, .inl (nI 0))]) [1, 2, 0] rfl ?_
    refine ca_first_i W Rh1 Zh1 (fun p hp hy hno => ?_) (fun hno => ?_) 0 (Nat.zero_le _) (fun i hi => absurd hi (Nat.not_lt_zero _))
    · refine ⟨jt_li ?_, Fh1⟩
      have e := sp_fi_at hp hy hno
      rw [sp_fi_pos (P := fun k => (sp_fi (sp_new g k) 0 (g 1)).isSome) (k := k) (n := 99) (by omega) (by show (sp_fi (sp_new g k) 0 (g 1)).isSome = true; rw [e]; rfl)]
      show nI p = jo (sp_fi (sp_new g k) 0 (g 1))
      rw [e]
      rfl
    · refine jt_inc jm_m90 34 (c := k + 1) (L' := [(1, .inl (nI (k + 1 + 1))), (0, .inr (.inr (0, 0, 0))), (2, .inl (nI (g 1)))]) rfl rfl rfl rfl ?_
      refine jt_go jm_m90 35 1 (f' := (13, [(1, .inl (nI (k + 1 + 1))), (0, .inr (.inr (0, 0, 0))), (2, .inl (nI (g 1)))], [], h1)) (P := True) rfl trivial ?_
      refine jt_pick (L' := [(0, .inr (.inr (0, 0, 0))), (1, .inl (nI (k + 1 + 1)))]) [1, 0] rfl ?_
      rw [sp_fi_neg (P := fun k => (sp_fi (sp_new g k) 0 (g 1)).isSome) (k := k) (n := 99) (by omega) (by show ¬ (sp_fi (sp_new g k) 0 (g 1)).isSome = true; rw [sp_fi_no hno]; simp)]
      exact nx (by omega) h1 Rh1 Fh1)
def za_first (g : Nat → Nat) : Int32 := jo1 (sp_bst (sp_ft g) (g 1))
set_option maxHeartbeats 4000000 in
set_option maxRecDepth 20000 in
theorem ca_first {h : jm_M} {g : Nat → Nat} (R : jf_rel h 0 g) (W : jw g) : jt_T 90 (0, [(0, .inr (.inr (0, 0, 0)))], [], h) (fun u h' => u = some (.inl (za_first g)) ∧ jf_fr 1 h h') := by
  refine jt_go jm_m90 0 4 (f' := (8, [(0, .inr (.inr (0, 0, 0)))], [.inr (.inr (2, 0, 0)), .inr (.inr (2, 1, 0))], h)) (P := True) rfl trivial ?_
  refine jt_call jm_m90 4 (mi' := 6) (as := [.inr (.inr (2, 1, 0)), .inr (.inr (2, 0, 0))]) (rest := []) (nxt := 11) rfl rfl jm_m6 rfl rfl (ta_becomes R W (by decide)) ?_
  rintro u h1 ⟨rfl, Rh1, Fh1⟩
  show jt_T 90 (11, [(0, .inr (.inr (0, 0, 0)))], [], h1) _
  have Rh1 : jf_rel h1 1 g := Rh1
  have Wh1 : jw (g) := W
  have Zh1 := jf_mov0 R Fh1
  refine jt_go jm_m90 5 2 (f' := (13, [(1, .inl (nI 1)), (0, .inr (.inr (0, 0, 0)))], [], h1)) (P := True) rfl trivial ?_
  refine jt_pick (L' := [(0, .inr (.inr (0, 0, 0))), (1, .inl (nI 1))]) [1, 0] rfl ?_
  refine jt_mono (ca_first_l (h := h1) Zh1 W 0 (Nat.zero_le _) _ Rh1 jf_fr_rf) (fun u h2 zz => ⟨zz.1.trans (jt_li ?_), jf_fr_tr Fh1 zz.2⟩)
  unfold za_first jo1
  rw [← sp_fst_eq]
  rfl
set_option maxHeartbeats 4000000 in
set_option maxRecDepth 20000 in
theorem cb_first_l {h : jm_M} {g : Nat → Nat} (W : jw g)  : ∀ k, k ≤ g 1 → ∀ hm : jm_M, (jg_rel hm 0 g) → (jg_fr 1 h hm) → jt_T 194 (8, [(0, .inr (.inr (4, 0, 0))), (1, .inl (jo1 (sp_bst (sp_ft g) k))), (2, .inl (jfar (sp_bst (sp_ft g) k))), (3, .inl (nI k))], [], hm) (fun u h' => u = some (.inl (jo1 (sp_bst (sp_ft g) (g 1)))) ∧ jg_fr 1 h h') := jx_up (P := fun k => ∀ hm : jm_M, (jg_rel hm 0 g) → (jg_fr 1 h hm) → jt_T 194 (8, [(0, .inr (.inr (4, 0, 0))), (1, .inl (jo1 (sp_bst (sp_ft g) k))), (2, .inl (jfar (sp_bst (sp_ft g) k))), (3, .inl (nI k))], [], hm) (fun u h' => u = some (.inl (jo1 (sp_bst (sp_ft g) (g 1)))) ∧ jg_fr 1 h h')) (fun k hk nx hm Zm Fm => by
  have bn := jw_n W
  have bm := jw_m W
  have bt := jw_t W
  rcases eb : sp_bst (sp_ft g) k with _ | ⟨b, v⟩
  · skip
    show jt_T 194 (8, [(0, .inr (.inr (4, 0, 0))), (1, .inl ((-4))), (2, .inl (nI 1000000000)), (3, .inl (nI k))], [], hm) _
    refine jt_go jm_m194 6 5 (f' := (15, [(0, .inr (.inr (4, 0, 0))), (1, .inl ((-4))), (2, .inl (nI 1000000000)), (3, .inl (nI k))], [.inl (hm (5, 0, 0) (nI 1).toNatClampNeg), .inl (nI k)], hm)) (P := vp_in (nI 1) 78 ∧ True) rfl ⟨(vp_in_nI (by omega) (by decide)), trivial⟩ ?_
    refine jt_ti (show (hm (5, 0, 0) (nI 1).toNatClampNeg) = nI (g 1) from jg_get Zm (k := 1) (nI_clamp (by omega)) (by omega)) ?_
    have bq1 := jw_m W
    refine jt_nicge jm_m194 11 (a := k) (b := g 1) (by omega) (by omega) (tgt := 69) (nxt := 18) rfl rfl rfl (fun c15 => ?_) (fun c15 => ?_)
    · refine jt_go jm_m194 38 1 (f' := (70, [(0, .inr (.inr (4, 0, 0))), (1, .inl ((-4))), (2, .inl (nI 1000000000)), (3, .inl (nI k))], [.inl ((-4))], hm)) (P := True) rfl trivial ?_
      refine jt_iret jm_m194 39 rfl ?_
      have e : k = g 1 := by omega
      subst e
      rw [eb]
      exact ⟨rfl, Fm⟩
    · refine jt_go jm_m194 12 4 (f' := (24, [(0, .inr (.inr (4, 0, 0))), (1, .inl ((-4))), (2, .inl (nI 1000000000)), (3, .inl (nI k))], [.inl (nI 1), .inl (nI k), .inr (.inr (5, 0, 0))], hm)) (P := True) rfl trivial ?_
      refine jt_callp (w := .inl (nI (67 + 2 * k))) jm_m194 16 (mi' := 148) (as := [.inl (nI k), .inl (nI 1)]) (rest := [.inr (.inr (5, 0, 0))]) (nxt := 27) rfl rfl jm_m148 rfl rfl (tb_ofM (k := 67 + 2 * k) (by omega)) ?_
      refine jt_go jm_m194 17 1 (f' := (28, [(0, .inr (.inr (4, 0, 0))), (1, .inl ((-4))), (2, .inl (nI 1000000000)), (3, .inl (nI k))], [.inl (hm (5, 0, 0) (nI (67 + 2 * k)).toNatClampNeg)], hm)) (P := vp_in (nI (67 + 2 * k)) 78 ∧ True) rfl ⟨(vp_in_nI (by omega) (by decide)), trivial⟩ ?_
      refine jt_ti (show (hm (5, 0, 0) (nI (67 + 2 * k)).toNatClampNeg) = nI (g (67 + 2 * k)) from jg_get Zm (k := 67 + 2 * k) (nI_clamp (by omega)) (by omega)) ?_
      have bq2 := jw_pas W (c := k) (by omega)
      refine jt_go jm_m194 18 1 (f' := (29, [(0, .inr (.inr (4, 0, 0))), (1, .inl ((-4))), (2, .inl (nI 1000000000)), (3, .inl (nI k))], [.inl (nI 1), .inl (nI (g (67 + 2 * k)))], hm)) (P := True) rfl trivial ?_
      refine jt_nicne jm_m194 19 (a := g (67 + 2 * k)) (b := 1) (by omega) (by omega) (tgt := 37) (nxt := 32) rfl rfl rfl (fun c29 => ?_) (fun c29 => ?_)
      · refine jt_go jm_m194 22 2 (f' := (39, [(0, .inr (.inr (4, 0, 0))), (1, .inl ((-4))), (2, .inl (nI 1000000000)), (3, .inl (nI k))], [.inl (nI k), .inr (.inr (4, 0, 0))], hm)) (P := True) rfl trivial ?_
        refine jt_call jm_m194 24 (mi' := 192) (as := [.inr (.inr (4, 0, 0)), .inl (nI k)]) (rest := []) (nxt := 42) rfl rfl jm_m192 rfl rfl (cb_passesOf Zm W (by omega)) ?_
        rintro u h1 ⟨rfl, Fh1⟩
        show jt_T 194 (42, [(0, .inr (.inr (4, 0, 0))), (1, .inl ((-4))), (2, .inl (nI 1000000000)), (3, .inl (nI k))], [.inl (jo (sp_till g k))], h1) _
        have Zh1 := jg_mov0 Zm Fh1
        have Fh1 := jg_fr_tr Fm Fh1
        rcases ew : sp_till g k with _ | w
        · show jt_T 194 (42, [(0, .inr (.inr (4, 0, 0))), (1, .inl ((-4))), (2, .inl (nI 1000000000)), (3, .inl (nI k))], [.inl ((-4))], h1) _
          refine jt_go jm_m194 25 2 (f' := (46, [(4, .inl ((-4))), (0, .inr (.inr (4, 0, 0))), (1, .inl ((-4))), (2, .inl (nI 1000000000)), (3, .inl (nI k))], [.inl ((-4))], h1)) (P := True) rfl trivial ?_
          refine jt_iflt jm_m194 27 (tgt := 63) (nxt := 49) rfl rfl rfl (fun c46 => ?_) (fun c46 => ?_)
          · refine jt_inc jm_m194 36 (c := k) (L' := [(3, .inl (nI (k + 1))), (4, .inl ((-4))), (0, .inr (.inr (4, 0, 0))), (1, .inl ((-4))), (2, .inl (nI 1000000000))]) rfl rfl rfl rfl ?_
            refine jt_go jm_m194 37 1 (f' := (8, [(3, .inl (nI (k + 1))), (4, .inl ((-4))), (0, .inr (.inr (4, 0, 0))), (1, .inl ((-4))), (2, .inl (nI 1000000000))], [], h1)) (P := True) rfl trivial ?_
            refine jt_pick (L' := [(0, .inr (.inr (4, 0, 0))), (1, .inl ((-4))), (2, .inl (nI 1000000000)), (3, .inl (nI (k + 1)))]) [2, 3, 4, 0] rfl ?_
            have ef : sp_ft g k = none := (if_neg c29).trans ew
            have e := sp_bst_none ef
            have q := nx (by omega) h1 Zh1 Fh1
            rw [e, eb] at q
            exact q
          · exact absurd c46 (by decide)
        · show jt_T 194 (42, [(0, .inr (.inr (4, 0, 0))), (1, .inl ((-4))), (2, .inl (nI 1000000000)), (3, .inl (nI k))], [.inl (nI w)], h1) _
          have hw := sp_till_lt ew
          refine jt_go jm_m194 25 2 (f' := (46, [(4, .inl (nI w)), (0, .inr (.inr (4, 0, 0))), (1, .inl ((-4))), (2, .inl (nI 1000000000)), (3, .inl (nI k))], [.inl (nI w)], h1)) (P := True) rfl trivial ?_
          refine jt_niflt jm_m194 27 (by omega) rfl rfl rfl (fun _ => ?_)
          refine jt_go jm_m194 28 2 (f' := (52, [(4, .inl (nI w)), (0, .inr (.inr (4, 0, 0))), (1, .inl ((-4))), (2, .inl (nI 1000000000)), (3, .inl (nI k))], [.inl (nI 1000000000), .inl (nI w)], h1)) (P := True) rfl trivial ?_
          refine jt_niclt jm_m194 30 (a := w) (b := 1000000000) (by omega) (by omega) (tgt := 58) (nxt := 55) rfl rfl rfl (fun c52 => ?_) (fun c52 => ?_)
          · refine jt_go jm_m194 32 4 (f' := (63, [(2, .inl (nI w)), (1, .inl (nI k)), (4, .inl (nI w)), (0, .inr (.inr (4, 0, 0))), (3, .inl (nI k))], [], h1)) (P := True) rfl trivial ?_
            refine jt_inc jm_m194 36 (c := k) (L' := [(3, .inl (nI (k + 1))), (2, .inl (nI w)), (1, .inl (nI k)), (4, .inl (nI w)), (0, .inr (.inr (4, 0, 0)))]) rfl rfl rfl rfl ?_
            refine jt_go jm_m194 37 1 (f' := (8, [(3, .inl (nI (k + 1))), (2, .inl (nI w)), (1, .inl (nI k)), (4, .inl (nI w)), (0, .inr (.inr (4, 0, 0)))], [], h1)) (P := True) rfl trivial ?_
            refine jt_pick (L' := [(0, .inr (.inr (4, 0, 0))), (1, .inl (nI k)), (2, .inl (nI w)), (3, .inl (nI (k + 1)))]) [4, 2, 1, 0] rfl ?_
            have ef : sp_ft g k = some w := (if_neg c29).trans ew
            have e := sp_bst_first ef eb
            have q := nx (by omega) h1 Zh1 Fh1
            rw [e] at q
            exact q
          · refine jt_go jm_m194 31 1 (f' := (63, [(4, .inl (nI w)), (0, .inr (.inr (4, 0, 0))), (1, .inl ((-4))), (2, .inl (nI 1000000000)), (3, .inl (nI k))], [], h1)) (P := True) rfl trivial ?_
            refine jt_inc jm_m194 36 (c := k) (L' := [(3, .inl (nI (k + 1))), (4, .inl (nI w)), (0, .inr (.inr (4, 0, 0))), (1, .inl ((-4))), (2, .inl (nI 1000000000))]) rfl rfl rfl rfl ?_
            refine jt_go jm_m194 37 1 (f' := (8, [(3, .inl (nI (k + 1))), (4, .inl (nI w)), (0, .inr (.inr (4, 0, 0))), (1, .inl ((-4))), (2, .inl (nI 1000000000))], [], h1)) (P := True) rfl trivial ?_
            refine jt_pick (L' := [(0, .inr (.inr (4, 0, 0))), (1, .inl ((-4))), (2, .inl (nI 1000000000)), (3, .inl (nI (k + 1)))]) [2, 3, 4, 0] rfl ?_
            exfalso
            omega
      · refine jt_go jm_m194 20 2 (f' := (42, [(0, .inr (.inr (4, 0, 0))), (1, .inl ((-4))), (2, .inl (nI 1000000000)), (3, .inl (nI k))], [.inl ((-4))], hm)) (P := True) rfl trivial ?_
        refine jt_go jm_m194 25 2 (f' := (46, [(4, .inl ((-4))), (0, .inr (.inr (4, 0, 0))), (1, .inl ((-4))), (2, .inl (nI 1000000000)), (3, .inl (nI k))], [.inl ((-4))], hm)) (P := True) rfl trivial ?_
        refine jt_iflt jm_m194 27 (tgt := 63) (nxt := 49) rfl rfl rfl (fun c46 => ?_) (fun c46 => ?_)
        · refine jt_inc jm_m194 36 (c := k) (L' := [(3, .inl (nI (k + 1))), (4, .inl ((-4))), (0, .inr (.inr (4, 0, 0))), (1, .inl ((-4))), (2, .inl (nI 1000000000))]) rfl rfl rfl rfl ?_
          refine jt_go jm_m194 37 1 (f' := (8, [(3, .inl (nI (k + 1))), (4, .inl ((-4))), (0, .inr (.inr (4, 0, 0))), (1, .inl ((-4))), (2, .inl (nI 1000000000))], [], hm)) (P := True) rfl trivial ?_
          refine jt_pick (L' := [(0, .inr (.inr (4, 0, 0))), (1, .inl ((-4))), (2, .inl (nI 1000000000)), (3, .inl (nI (k + 1)))]) [2, 3, 4, 0] rfl ?_
          have ef : sp_ft g k = none := if_pos c29
          have e := sp_bst_none ef
          have q := nx (by omega) hm Zm Fm
          rw [e, eb] at q
          exact q
        · exact absurd c46 (by decide)
  · have hb := sp_bst_lt (M := 100) (fun i x e => sp_ft_lt e) eb
    have hb1 := hb.1
    have hb2 := hb.2
    show jt_T 194 (8, [(0, .inr (.inr (4, 0, 0))), (1, .inl (nI b)), (2, .inl (nI v)), (3, .inl (nI k))], [], hm) _
    refine jt_go jm_m194 6 5 (f' := (15, [(0, .inr (.inr (4, 0, 0))), (1, .inl (nI b)), (2, .inl (nI v)), (3, .inl (nI k))], [.inl (hm (5, 0, 0) (nI 1).toNatClampNeg), .inl (nI k)], hm)) (P := vp_in (nI 1) 78 ∧ True) rfl ⟨(vp_in_nI (by omega) (by decide)), trivial⟩ ?_
    refine jt_ti (show (hm (5, 0, 0) (nI 1).toNatClampNeg) = nI (g 1) from jg_get Zm (k := 1) (nI_clamp (by omega)) (by omega)) ?_
    have bq1 := jw_m W
    refine jt_nicge jm_m194 11 (a := k) (b := g 1) (by omega) (by omega) (tgt := 69) (nxt := 18) rfl rfl rfl (fun c15 => ?_) (fun c15 => ?_)
    · refine jt_go jm_m194 38 1 (f' := (70, [(0, .inr (.inr (4, 0, 0))), (1, .inl (nI b)), (2, .inl (nI v)), (3, .inl (nI k))], [.inl (nI b)], hm)) (P := True) rfl trivial ?_
      refine jt_iret jm_m194 39 rfl ?_
      have e : k = g 1 := by omega
      subst e
      rw [eb]
      exact ⟨rfl, Fm⟩
    · refine jt_go jm_m194 12 4 (f' := (24, [(0, .inr (.inr (4, 0, 0))), (1, .inl (nI b)), (2, .inl (nI v)), (3, .inl (nI k))], [.inl (nI 1), .inl (nI k), .inr (.inr (5, 0, 0))], hm)) (P := True) rfl trivial ?_
      refine jt_callp (w := .inl (nI (67 + 2 * k))) jm_m194 16 (mi' := 148) (as := [.inl (nI k), .inl (nI 1)]) (rest := [.inr (.inr (5, 0, 0))]) (nxt := 27) rfl rfl jm_m148 rfl rfl (tb_ofM (k := 67 + 2 * k) (by omega)) ?_
      refine jt_go jm_m194 17 1 (f' := (28, [(0, .inr (.inr (4, 0, 0))), (1, .inl (nI b)), (2, .inl (nI v)), (3, .inl (nI k))], [.inl (hm (5, 0, 0) (nI (67 + 2 * k)).toNatClampNeg)], hm)) (P := vp_in (nI (67 + 2 * k)) 78 ∧ True) rfl ⟨(vp_in_nI (by omega) (by decide)), trivial⟩ ?_
      refine jt_ti (show (hm (5, 0, 0) (nI (67 + 2 * k)).toNatClampNeg) = nI (g (67 + 2 * k)) from jg_get Zm (k := 67 + 2 * k) (nI_clamp (by omega)) (by omega)) ?_
      have bq2 := jw_pas W (c := k) (by omega)
      refine jt_go jm_m194 18 1 (f' := (29, [(0, .inr (.inr (4, 0, 0))), (1, .inl (nI b)), (2, .inl (nI v)), (3, .inl (nI k))], [.inl (nI 1), .inl (nI (g (67 + 2 * k)))], hm)) (P := True) rfl trivial ?_
      refine jt_nicne jm_m194 19 (a := g (67 + 2 * k)) (b := 1) (by omega) (by omega) (tgt := 37) (nxt := 32) rfl rfl rfl (fun c29 => ?_) (fun c29 => ?_)
      · refine jt_go jm_m194 22 2 (f' := (39, [(0, .inr (.inr (4, 0, 0))), (1, .inl (nI b)), (2, .inl (nI v)), (3, .inl (nI k))], [.inl (nI k), .inr (.inr (4, 0, 0))], hm)) (P := True) rfl trivial ?_
        refine jt_call jm_m194 24 (mi' := 192) (as := [.inr (.inr (4, 0, 0)), .inl (nI k)]) (rest := []) (nxt := 42) rfl rfl jm_m192 rfl rfl (cb_passesOf Zm W (by omega)) ?_
        rintro u h1 ⟨rfl, Fh1⟩
        show jt_T 194 (42, [(0, .inr (.inr (4, 0, 0))), (1, .inl (nI b)), (2, .inl (nI v)), (3, .inl (nI k))], [.inl (jo (sp_till g k))], h1) _
        have Zh1 := jg_mov0 Zm Fh1
        have Fh1 := jg_fr_tr Fm Fh1
        rcases ew : sp_till g k with _ | w
        · show jt_T 194 (42, [(0, .inr (.inr (4, 0, 0))), (1, .inl (nI b)), (2, .inl (nI v)), (3, .inl (nI k))], [.inl ((-4))], h1) _
          refine jt_go jm_m194 25 2 (f' := (46, [(4, .inl ((-4))), (0, .inr (.inr (4, 0, 0))), (1, .inl (nI b)), (2, .inl (nI v)), (3, .inl (nI k))], [.inl ((-4))], h1)) (P := True) rfl trivial ?_
          refine jt_iflt jm_m194 27 (tgt := 63) (nxt := 49) rfl rfl rfl (fun c46 => ?_) (fun c46 => ?_)
          · refine jt_inc jm_m194 36 (c := k) (L' := [(3, .inl (nI (k + 1))), (4, .inl ((-4))), (0, .inr (.inr (4, 0, 0))), (1, .inl (nI b)), (2, .inl (nI v))]) rfl rfl rfl rfl ?_
            refine jt_go jm_m194 37 1 (f' := (8, [(3, .inl (nI (k + 1))), (4, .inl ((-4))), (0, .inr (.inr (4, 0, 0))), (1, .inl (nI b)), (2, .inl (nI v))], [], h1)) (P := True) rfl trivial ?_
            refine jt_pick (L' := [(0, .inr (.inr (4, 0, 0))), (1, .inl (nI b)), (2, .inl (nI v)), (3, .inl (nI (k + 1)))]) [2, 3, 4, 0] rfl ?_
            have ef : sp_ft g k = none := (if_neg c29).trans ew
            have e := sp_bst_none ef
            have q := nx (by omega) h1 Zh1 Fh1
            rw [e, eb] at q
            exact q
          · exact absurd c46 (by decide)
        · show jt_T 194 (42, [(0, .inr (.inr (4, 0, 0))), (1, .inl (nI b)), (2, .inl (nI v)), (3, .inl (nI k))], [.inl (nI w)], h1) _
          have hw := sp_till_lt ew
          refine jt_go jm_m194 25 2 (f' := (46, [(4, .inl (nI w)), (0, .inr (.inr (4, 0, 0))), (1, .inl (nI b)), (2, .inl (nI v)), (3, .inl (nI k))], [.inl (nI w)], h1)) (P := True) rfl trivial ?_
          refine jt_niflt jm_m194 27 (by omega) rfl rfl rfl (fun _ => ?_)
          refine jt_go jm_m194 28 2 (f' := (52, [(4, .inl (nI w)), (0, .inr (.inr (4, 0, 0))), (1, .inl (nI b)), (2, .inl (nI v)), (3, .inl (nI k))], [.inl (nI v), .inl (nI w)], h1)) (P := True) rfl trivial ?_
          refine jt_niclt jm_m194 30 (a := w) (b := v) (by omega) (by omega) (tgt := 58) (nxt := 55) rfl rfl rfl (fun c52 => ?_) (fun c52 => ?_)
          · refine jt_go jm_m194 32 4 (f' := (63, [(2, .inl (nI w)), (1, .inl (nI k)), (4, .inl (nI w)), (0, .inr (.inr (4, 0, 0))), (3, .inl (nI k))], [], h1)) (P := True) rfl trivial ?_
            refine jt_inc jm_m194 36 (c := k) (L' := [(3, .inl (nI (k + 1))), (2, .inl (nI w)), (1, .inl (nI k)), (4, .inl (nI w)), (0, .inr (.inr (4, 0, 0)))]) rfl rfl rfl rfl ?_
            refine jt_go jm_m194 37 1 (f' := (8, [(3, .inl (nI (k + 1))), (2, .inl (nI w)), (1, .inl (nI k)), (4, .inl (nI w)), (0, .inr (.inr (4, 0, 0)))], [], h1)) (P := True) rfl trivial ?_
            refine jt_pick (L' := [(0, .inr (.inr (4, 0, 0))), (1, .inl (nI k)), (2, .inl (nI w)), (3, .inl (nI (k + 1)))]) [4, 2, 1, 0] rfl ?_
            have ef : sp_ft g k = some w := (if_neg c29).trans ew
            have e := sp_bst_less ef eb (by omega)
            have q := nx (by omega) h1 Zh1 Fh1
            rw [e] at q
            exact q
          · refine jt_go jm_m194 31 1 (f' := (63, [(4, .inl (nI w)), (0, .inr (.inr (4, 0, 0))), (1, .inl (nI b)), (2, .inl (nI v)), (3, .inl (nI k))], [], h1)) (P := True) rfl trivial ?_
            refine jt_inc jm_m194 36 (c := k) (L' := [(3, .inl (nI (k + 1))), (4, .inl (nI w)), (0, .inr (.inr (4, 0, 0))), (1, .inl (nI b)), (2, .inl (nI v))]) rfl rfl rfl rfl ?_
            refine jt_go jm_m194 37 1 (f' := (8, [(3, .inl (nI (k + 1))), (4, .inl (nI w)), (0, .inr (.inr (4, 0, 0))), (1, .inl (nI b)), (2, .inl (nI v))], [], h1)) (P := True) rfl trivial ?_
            refine jt_pick (L' := [(0, .inr (.inr (4, 0, 0))), (1, .inl (nI b)), (2, .inl (nI v)), (3, .inl (nI (k + 1)))]) [2, 3, 4, 0] rfl ?_
            have ef : sp_ft g k = some w := (if_neg c29).trans ew
            have e := sp_bst_ge ef eb (by omega)
            have q := nx (by omega) h1 Zh1 Fh1
            rw [e] at q
            exact q
      · refine jt_go jm_m194 20 2 (f' := (42, [(0, .inr (.inr (4, 0, 0))), (1, .inl (nI b)), (2, .inl (nI v)), (3, .inl (nI k))], [.inl ((-4))], hm)) (P := True) rfl trivial ?_
        refine jt_go jm_m194 25 2 (f' := (46, [(4, .inl ((-4))), (0, .inr (.inr (4, 0, 0))), (1, .inl (nI b)), (2, .inl (nI v)), (3, .inl (nI k))], [.inl ((-4))], hm)) (P := True) rfl trivial ?_
        refine jt_iflt jm_m194 27 (tgt := 63) (nxt := 49) rfl rfl rfl (fun c46 => ?_) (fun c46 => ?_)
        · refine jt_inc jm_m194 36 (c := k) (L' := [(3, .inl (nI (k + 1))), (4, .inl ((-4))), (0, .inr (.inr (4, 0, 0))), (1, .inl (nI b)), (2, .inl (nI v))]) rfl rfl rfl rfl ?_
          refine jt_go jm_m194 37 1 (f' := (8, [(3, .inl (nI (k + 1))), (4, .inl ((-4))), (0, .inr (.inr (4, 0, 0))), (1, .inl (nI b)), (2, .inl (nI v))], [], hm)) (P := True) rfl trivial ?_
          refine jt_pick (L' := [(0, .inr (.inr (4, 0, 0))), (1, .inl (nI b)), (2, .inl (nI v)), (3, .inl (nI (k + 1)))]) [2, 3, 4, 0] rfl ?_
          have ef : sp_ft g k = none := if_pos c29
          have e := sp_bst_none ef
          have q := nx (by omega) hm Zm Fm
          rw [e, eb] at q
          exact q
        · exact absurd c46 (by decide))
set_option maxHeartbeats 4000000 in
set_option maxRecDepth 20000 in
theorem cb_first {h : jm_M} {g : Nat → Nat} (R : jg_rel h 0 g) (W : jw g) : jt_T 194 (0, [(0, .inr (.inr (4, 0, 0)))], [], h) (fun u h' => u = some (.inl (za_first g)) ∧ jg_fr 1 h h') := by
  refine jt_go jm_m194 0 6 (f' := (8, [(3, .inl (nI 0)), (2, .inl (nI 1000000000)), (1, .inl ((-4))), (0, .inr (.inr (4, 0, 0)))], [], h)) (P := True) rfl trivial ?_
  refine jt_pick (L' := [(0, .inr (.inr (4, 0, 0))), (1, .inl ((-4))), (2, .inl (nI 1000000000)), (3, .inl (nI 0))]) [3, 2, 1, 0] rfl ?_
  exact cb_first_l W 0 (Nat.zero_le _) _ R jg_fr_rf
