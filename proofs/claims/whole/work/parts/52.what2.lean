/-! What it is. -/
def sp_lim (w : Nat) : Nat := if w = 0 then 8 else if w = 1 then 10 else 16
def za_whatIs (g : Nat → Nat) (s : Nat → Nat → Nat) (e : Nat → Nat → Int32) (x y z : Int32) : Int32 := if (nI 0 ≤ y ∧ y < nI (g 0)) ∧ (nI 0 ≤ z ∧ z ≤ nI 2) then (if zr_h 2 s x = nI 0 then nI (sp_bits (fun k => decide (wi_t (sp_up g (36 + 5 * y.toNatClampNeg + z.toNatClampNeg) k) s e x.toNatClampNeg y.toNatClampNeg)) (sp_lim z.toNatClampNeg)) else zr_h 2 s x) else (-1)
set_option maxHeartbeats 4000000 in
set_option maxRecDepth 20000 in
theorem ca_what_l {h : jm_M} {g : Nat → Nat} (W : jw g) {s : Nat → Nat → Nat} {e : Nat → Nat → Int32} (K : jk_rel h s e) (Y : kw s) {d : Nat} (hd : d ≤ 7) (qa : s d 0 = 2) {c w lim : Nat} (hc : c < 6) (hw : w ≤ 2) (hl : lim ≤ 16) (hl0 : w = 0 → lim ≤ 8) (hl1 : w = 1 → lim ≤ 10) : ∀ k, k ≤ lim → ∀ hm : jm_M, (jf_rel hm 0 g) → (jf_fr 1 h hm) → jt_T 107 (73, [(0, .inr (.inr (0, 0, 0))), (1, .inl (nI d)), (2, .inl (nI c)), (3, .inl (nI w)), (4, .inl (nI 0)), (5, .inl (nI lim)), (6, .inl (nI (sp_bits (fun k => decide (wi_t (sp_up g (36 + 5 * c + w) k) s e d c)) k))), (7, .inl (nI k))], [], hm) (fun u h' => u = some (.inl (nI (sp_bits (fun k => decide (wi_t (sp_up g (36 + 5 * c + w) k) s e d c)) lim))) ∧ jf_fr 1 h h') := jx_up (P := fun k => ∀ hm : jm_M, (jf_rel hm 0 g) → (jf_fr 1 h hm) → jt_T 107 (73, [(0, .inr (.inr (0, 0, 0))), (1, .inl (nI d)), (2, .inl (nI c)), (3, .inl (nI w)), (4, .inl (nI 0)), (5, .inl (nI lim)), (6, .inl (nI (sp_bits (fun k => decide (wi_t (sp_up g (36 + 5 * c + w) k) s e d c)) k))), (7, .inl (nI k))], [], hm) (fun u h' => u = some (.inl (nI (sp_bits (fun k => decide (wi_t (sp_up g (36 + 5 * c + w) k) s e d c)) lim))) ∧ jf_fr 1 h h')) (fun k hk nx hm Zm Fm => by
  have bn := jw_n W
  have bm := jw_m W
  have bt := jw_t W
  have bs := sp_bits_lt (fun k => decide (wi_t (sp_up g (36 + 5 * c + w) k) s e d c)) k
  refine jt_go jm_m107 38 2 (f' := (77, [(0, .inr (.inr (0, 0, 0))), (1, .inl (nI d)), (2, .inl (nI c)), (3, .inl (nI w)), (4, .inl (nI 0)), (5, .inl (nI lim)), (6, .inl (nI (sp_bits (fun k => decide (wi_t (sp_up g (36 + 5 * c + w) k) s e d c)) k))), (7, .inl (nI k))], [.inl (nI lim), .inl (nI k)], hm)) (P := True) rfl trivial ?_
  refine jt_nicge jm_m107 40 (a := k) (b := lim) (by omega) (by omega) (tgt := 128) (nxt := 80) rfl rfl rfl (fun c77 => ?_) (fun c77 => ?_)
  · refine jt_go jm_m107 67 1 (f' := (130, [(0, .inr (.inr (0, 0, 0))), (1, .inl (nI d)), (2, .inl (nI c)), (3, .inl (nI w)), (4, .inl (nI 0)), (5, .inl (nI lim)), (6, .inl (nI (sp_bits (fun k => decide (wi_t (sp_up g (36 + 5 * c + w) k) s e d c)) k))), (7, .inl (nI k))], [.inl (nI (sp_bits (fun k => decide (wi_t (sp_up g (36 + 5 * c + w) k) s e d c)) k))], hm)) (P := True) rfl trivial ?_
    refine jt_iret jm_m107 68 rfl ?_
    have e_ : k = lim := by omega
    subst e_
    exact ⟨rfl, Fm⟩
  · refine jt_go jm_m107 41 4 (f' := (88, [(0, .inr (.inr (0, 0, 0))), (1, .inl (nI d)), (2, .inl (nI c)), (3, .inl (nI w)), (4, .inl (nI 0)), (5, .inl (nI lim)), (6, .inl (nI (sp_bits (fun k => decide (wi_t (sp_up g (36 + 5 * c + w) k) s e d c)) k))), (7, .inl (nI k))], [.inr (.inr (2, 0, 0)), .inr (.inr (2, 1, 0))], hm)) (P := True) rfl trivial ?_
    refine jt_call jm_m107 45 (mi' := 6) (as := [.inr (.inr (2, 1, 0)), .inr (.inr (2, 0, 0))]) (rest := []) (nxt := 91) rfl rfl jm_m6 rfl rfl (ta_becomes Zm W (by decide)) ?_
    rintro u h1 ⟨rfl, Rh1, Fh1⟩
    show jt_T 107 (91, [(0, .inr (.inr (0, 0, 0))), (1, .inl (nI d)), (2, .inl (nI c)), (3, .inl (nI w)), (4, .inl (nI 0)), (5, .inl (nI lim)), (6, .inl (nI (sp_bits (fun k => decide (wi_t (sp_up g (36 + 5 * c + w) k) s e d c)) k))), (7, .inl (nI k))], [], h1) _
    have Rh1 : jf_rel h1 1 g := Rh1
    have Wh1 : jw (g) := W
    have Zh1 := jf_mov0 Zm Fh1
    have Fh1 := jf_fr_tr Fm Fh1
    refine jt_go jm_m107 46 4 (f' := (96, [(0, .inr (.inr (0, 0, 0))), (1, .inl (nI d)), (2, .inl (nI c)), (3, .inl (nI w)), (4, .inl (nI 0)), (5, .inl (nI lim)), (6, .inl (nI (sp_bits (fun k => decide (wi_t (sp_up g (36 + 5 * c + w) k) s e d c)) k))), (7, .inl (nI k))], [.inl (nI k), .inl (nI w), .inl (nI c), .inr (.inr (0, 0, 0))], h1)) (P := True) rfl trivial ?_
    refine jt_call jm_m107 50 (mi' := 108) (as := [.inr (.inr (0, 0, 0)), .inl (nI c), .inl (nI w), .inl (nI k)]) (rest := []) (nxt := 99) rfl rfl jm_m108 rfl rfl (ca_sup Rh1 Wh1 (by omega) (by omega)) ?_
    rintro u h2 ⟨rfl, Rh2, Fh2⟩
    show jt_T 107 (99, [(0, .inr (.inr (0, 0, 0))), (1, .inl (nI d)), (2, .inl (nI c)), (3, .inl (nI w)), (4, .inl (nI 0)), (5, .inl (nI lim)), (6, .inl (nI (sp_bits (fun k => decide (wi_t (sp_up g (36 + 5 * c + w) k) s e d c)) k))), (7, .inl (nI k))], [], h2) _
    have Rh2 : jf_rel h2 1 (sp_up g (36 + 5 * c + w) k) := Rh2
    have Wh2 : jw (sp_up g (36 + 5 * c + w) k) := jw_sup Wh1 (by omega) (by omega) (fun q => by have := hl0 q; omega) (fun q => by have := hl1 q; omega) (by omega)
    have Zh2 := jf_mov0 Zh1 Fh2
    have Fh2 := jf_fr_tr Fh1 Fh2
    refine jt_go jm_m107 51 5 (f' := (106, [(0, .inr (.inr (0, 0, 0))), (1, .inl (nI d)), (2, .inl (nI c)), (3, .inl (nI w)), (4, .inl (nI 0)), (5, .inl (nI lim)), (6, .inl (nI (sp_bits (fun k => decide (wi_t (sp_up g (36 + 5 * c + w) k) s e d c)) k))), (7, .inl (nI k))], [.inr (.inr (3, (nI d).toNatClampNeg, 0)), .inr (.inr (0, 0, 0))], h2)) (P := vp_in (nI d) 8 ∧ True) rfl ⟨(vp_in_nI (by omega) (by decide)), trivial⟩ ?_
    refine jt_tr (show ((3, (nI d).toNatClampNeg, 0) : jm_K) = (3, d, 0) by rw [nI_clamp (by omega)]) ?_
    refine jt_go jm_m107 56 1 (f' := (107, [(0, .inr (.inr (0, 0, 0))), (1, .inl (nI d)), (2, .inl (nI c)), (3, .inl (nI w)), (4, .inl (nI 0)), (5, .inl (nI lim)), (6, .inl (nI (sp_bits (fun k => decide (wi_t (sp_up g (36 + 5 * c + w) k) s e d c)) k))), (7, .inl (nI k))], [.inl (nI c), .inr (.inr (3, d, 0)), .inr (.inr (0, 0, 0))], h2)) (P := True) rfl trivial ?_
    refine jt_call jm_m107 57 (mi' := 109) (as := [.inr (.inr (0, 0, 0)), .inr (.inr (3, d, 0)), .inl (nI c)]) (rest := []) (nxt := 110) rfl rfl jm_m109 rfl rfl (ca_told Rh2 Wh2 (jk_mvf K Fh2) Y (by omega) (by assumption) (by omega)) ?_
    rintro u h3 ⟨rfl, Fh3⟩
    show jt_T 107 (110, [(0, .inr (.inr (0, 0, 0))), (1, .inl (nI d)), (2, .inl (nI c)), (3, .inl (nI w)), (4, .inl (nI 0)), (5, .inl (nI lim)), (6, .inl (nI (sp_bits (fun k => decide (wi_t (sp_up g (36 + 5 * c + w) k) s e d c)) k))), (7, .inl (nI k))], [.inl (jm_b (wi_t (sp_up g (36 + 5 * c + w) k) s e d c))], h3) _
    have Zh3 := jf_mov0 Zh2 Fh3
    have Fh3 := jf_fr_tr Fh2 Fh3
    refine jt_ifbeq jm_m107 58 (tgt := 122) (nxt := 113) rfl rfl rfl (fun c110 => ?_) (fun c110 => ?_)
    · refine jt_inc jm_m107 65 (c := k) (L' := [(7, .inl (nI (k + 1))), (0, .inr (.inr (0, 0, 0))), (1, .inl (nI d)), (2, .inl (nI c)), (3, .inl (nI w)), (4, .inl (nI 0)), (5, .inl (nI lim)), (6, .inl (nI (sp_bits (fun k => decide (wi_t (sp_up g (36 + 5 * c + w) k) s e d c)) k)))]) rfl rfl rfl rfl ?_
      refine jt_go jm_m107 66 1 (f' := (73, [(7, .inl (nI (k + 1))), (0, .inr (.inr (0, 0, 0))), (1, .inl (nI d)), (2, .inl (nI c)), (3, .inl (nI w)), (4, .inl (nI 0)), (5, .inl (nI lim)), (6, .inl (nI (sp_bits (fun k => decide (wi_t (sp_up g (36 + 5 * c + w) k) s e d c)) k)))], [], h3)) (P := True) rfl trivial ?_
      refine jt_pick (L' := [(0, .inr (.inr (0, 0, 0))), (1, .inl (nI d)), (2, .inl (nI c)), (3, .inl (nI w)), (4, .inl (nI 0)), (5, .inl (nI lim)), (6, .inl (nI (sp_bits (fun k => decide (wi_t (sp_up g (36 + 5 * c + w) k) s e d c)) k))), (7, .inl (nI (k + 1)))]) [1, 2, 3, 4, 5, 6, 7, 0] rfl ?_
      have e_ : sp_bits (fun k => decide (wi_t (sp_up g (36 + 5 * c + w) k) s e d c)) (k + 1) = sp_bits (fun k => decide (wi_t (sp_up g (36 + 5 * c + w) k) s e d c)) k := if_neg (fun z => c110 (of_decide_eq_true z))
      have q := nx (by omega) h3 Zh3 Fh3
      rw [e_] at q
      exact q
    · refine jt_go jm_m107 59 5 (f' := (120, [(0, .inr (.inr (0, 0, 0))), (1, .inl (nI d)), (2, .inl (nI c)), (3, .inl (nI w)), (4, .inl (nI 0)), (5, .inl (nI lim)), (6, .inl (nI (sp_bits (fun k => decide (wi_t (sp_up g (36 + 5 * c + w) k) s e d c)) k))), (7, .inl (nI k))], [.inl ((nI (sp_bits (fun k => decide (wi_t (sp_up g (36 + 5 * c + w) k) s e d c)) k)) ||| ((nI 1) <<< ((nI k) &&& 31)))], h3)) (P := True) rfl trivial ?_
      refine jt_ti (show ((nI (sp_bits (fun k => decide (wi_t (sp_up g (36 + 5 * c + w) k) s e d c)) k)) ||| ((nI 1) <<< ((nI k) &&& 31))) = nI (sp_bits (fun k => decide (wi_t (sp_up g (36 + 5 * c + w) k) s e d c)) k + 2 ^ k) from jx_or16 (by omega) bs) ?_
      refine jt_go jm_m107 64 1 (f' := (122, [(6, .inl (nI (sp_bits (fun k => decide (wi_t (sp_up g (36 + 5 * c + w) k) s e d c)) k + 2 ^ k))), (0, .inr (.inr (0, 0, 0))), (1, .inl (nI d)), (2, .inl (nI c)), (3, .inl (nI w)), (4, .inl (nI 0)), (5, .inl (nI lim)), (7, .inl (nI k))], [], h3)) (P := True) rfl trivial ?_
      refine jt_inc jm_m107 65 (c := k) (L' := [(7, .inl (nI (k + 1))), (6, .inl (nI (sp_bits (fun k => decide (wi_t (sp_up g (36 + 5 * c + w) k) s e d c)) k + 2 ^ k))), (0, .inr (.inr (0, 0, 0))), (1, .inl (nI d)), (2, .inl (nI c)), (3, .inl (nI w)), (4, .inl (nI 0)), (5, .inl (nI lim))]) rfl rfl rfl rfl ?_
      refine jt_go jm_m107 66 1 (f' := (73, [(7, .inl (nI (k + 1))), (6, .inl (nI (sp_bits (fun k => decide (wi_t (sp_up g (36 + 5 * c + w) k) s e d c)) k + 2 ^ k))), (0, .inr (.inr (0, 0, 0))), (1, .inl (nI d)), (2, .inl (nI c)), (3, .inl (nI w)), (4, .inl (nI 0)), (5, .inl (nI lim))], [], h3)) (P := True) rfl trivial ?_
      refine jt_pick (L' := [(0, .inr (.inr (0, 0, 0))), (1, .inl (nI d)), (2, .inl (nI c)), (3, .inl (nI w)), (4, .inl (nI 0)), (5, .inl (nI lim)), (6, .inl (nI (sp_bits (fun k => decide (wi_t (sp_up g (36 + 5 * c + w) k) s e d c)) k + 2 ^ k))), (7, .inl (nI (k + 1)))]) [2, 3, 4, 5, 6, 7, 1, 0] rfl ?_
      have e_ : sp_bits (fun k => decide (wi_t (sp_up g (36 + 5 * c + w) k) s e d c)) (k + 1) = sp_bits (fun k => decide (wi_t (sp_up g (36 + 5 * c + w) k) s e d c)) k + 2 ^ k := if_pos (decide_eq_true c110)
      have q := nx (by omega) h3 Zh3 Fh3
      rw [e_] at q
      exact q)
set_option maxHeartbeats 4000000 in
set_option maxRecDepth 20000 in
theorem ca_whatIs {h : jm_M} {s : Nat → Nat → Nat} {e : Nat → Nat → Int32} (K : jk_rel h s e) (Y : kw s) {g : Nat → Nat} (R : jf_rel h 0 g) (W : jw g) {x y z : Int32} : jt_T 107 (0, [(0, .inr (.inr (0, 0, 0))), (1, .inl (x)), (2, .inl (y)), (3, .inl (z))], [], h) (fun u h' => u = some (.inl (za_whatIs g s e x y z)) ∧ jf_fr 1 h h') := by
  have bn := jw_n W
  have bm := jw_m W
  have bt := jw_t W
  refine jt_go jm_m107 0 1 (f' := (1, [(0, .inr (.inr (0, 0, 0))), (1, .inl (x)), (2, .inl (y)), (3, .inl (z))], [.inl (x)], h)) (P := True) rfl trivial ?_
  refine jt_callp (w := .inl (jm_b (nI 0 ≤ x ∧ x ≤ nI 7))) jm_m107 1 (mi' := 137) (as := [.inl (x)]) (rest := []) (nxt := 4) rfl rfl jm_m137 rfl rfl (ta_shelf) ?_
  refine jt_ifbeq jm_m107 2 (tgt := 27) (nxt := 7) rfl rfl rfl (fun c4 => ?_) (fun c4 => ?_)
  · refine jt_go jm_m107 13 1 (f' := (28, [(0, .inr (.inr (0, 0, 0))), (1, .inl (x)), (2, .inl (y)), (3, .inl (z))], [.inl ((-1))], h)) (P := True) rfl trivial ?_
    refine jt_iret jm_m107 14 rfl ?_
    have z1 := zr_no (w := 2) (s := s) c4
    refine ⟨jt_li ?_, jf_fr_rf⟩
    unfold za_whatIs
    split
    · rw [z1]; rfl
    · rfl
  · refine jt_go jm_m107 3 3 (f' := (12, [(0, .inr (.inr (0, 0, 0))), (1, .inl (x)), (2, .inl (y)), (3, .inl (z))], [.inl (y), .inr (.inr (2, 0, 0))], h)) (P := True) rfl trivial ?_
    refine jt_callp (w := .inl (jm_b (nI 0 ≤ y ∧ y < nI (g 0)))) jm_m107 6 (mi' := 7) (as := [.inr (.inr (2, 0, 0)), .inl (y)]) (rest := []) (nxt := 15) rfl rfl jm_m7 rfl rfl (ta_hasCat R W) ?_
    refine jt_ifbeq jm_m107 7 (tgt := 27) (nxt := 18) rfl rfl rfl (fun c15 => ?_) (fun c15 => ?_)
    · refine jt_go jm_m107 13 1 (f' := (28, [(0, .inr (.inr (0, 0, 0))), (1, .inl (x)), (2, .inl (y)), (3, .inl (z))], [.inl ((-1))], h)) (P := True) rfl trivial ?_
      refine jt_iret jm_m107 14 rfl ?_
      exact ⟨jt_li (if_neg (fun z => c15 z.1)).symm, jf_fr_rf⟩
    · have r15 := c15
      obtain ⟨c, hbc, rfl⟩ := jx_cat (by omega) r15
      show jt_T 107 (18, [(0, .inr (.inr (0, 0, 0))), (1, .inl (x)), (2, .inl (nI c)), (3, .inl (z))], [], h) _
      refine jt_go jm_m107 8 3 (f' := (21, [(0, .inr (.inr (0, 0, 0))), (1, .inl (x)), (2, .inl (nI c)), (3, .inl (z))], [.inl (nI 2), .inl (nI 0), .inl (z)], h)) (P := True) rfl trivial ?_
      refine jt_callp (w := .inl (jm_b (nI 0 ≤ z ∧ z ≤ nI 2))) jm_m107 11 (mi' := 136) (as := [.inl (z), .inl (nI 0), .inl (nI 2)]) (rest := []) (nxt := 24) rfl rfl jm_m136 rfl rfl (ta_within) ?_
      refine jt_ifbne jm_m107 12 (tgt := 29) (nxt := 27) rfl rfl rfl (fun c24 => ?_) (fun c24 => ?_)
      · have r24 := c24
        obtain ⟨w, hbw, rfl⟩ := jx_win (by decide) r24
        show jt_T 107 (29, [(0, .inr (.inr (0, 0, 0))), (1, .inl (x)), (2, .inl (nI c)), (3, .inl (nI w))], [], h) _
        refine jt_go jm_m107 15 2 (f' := (31, [(0, .inr (.inr (0, 0, 0))), (1, .inl (x)), (2, .inl (nI c)), (3, .inl (nI w))], [.inl (x), .inr (.inr (0, 0, 0))], h)) (P := True) rfl trivial ?_
        refine jt_callp (w := .inl (zr_h 2 s x)) jm_m107 17 (mi' := 133) (as := [.inr (.inr (0, 0, 0)), .inl (x)]) (rest := []) (nxt := 34) rfl rfl jm_m133 rfl rfl (tk_row K Y) ?_
        rcases zr_cs (x := x) Y (Or.inr rfl) with ⟨qn, q0⟩ | ⟨d, hd, rfl, qa, q0⟩ | ⟨d, hd, rfl, qa, q0⟩ | ⟨d, hd, rfl, qa, q0⟩
        · refine jt_ti (show zr_h 2 s x = (-1) from q0) ?_
          show jt_T 107 (34, [(0, .inr (.inr (0, 0, 0))), (1, .inl (x)), (2, .inl (nI c)), (3, .inl (nI w))], [.inl ((-1))], h) _
          refine jt_go jm_m107 18 2 (f' := (38, [(4, .inl ((-1))), (0, .inr (.inr (0, 0, 0))), (1, .inl (x)), (2, .inl (nI c)), (3, .inl (nI w))], [.inl ((-1))], h)) (P := True) rfl trivial ?_
          refine jt_ifeq jm_m107 20 (tgt := 44) (nxt := 41) rfl rfl rfl (fun c38 => ?_) (fun c38 => ?_)
          · exact absurd c38 (by decide)
          · refine jt_go jm_m107 21 1 (f' := (43, [(4, .inl ((-1))), (0, .inr (.inr (0, 0, 0))), (1, .inl (x)), (2, .inl (nI c)), (3, .inl (nI w))], [.inl ((-1))], h)) (P := True) rfl trivial ?_
            refine jt_iret jm_m107 22 rfl ?_
            refine ⟨jt_li ?_, jf_fr_rf⟩
            refine Eq.trans ?_ (if_pos ⟨c15, c24⟩).symm
            rw [q0]
            rfl
        · refine jt_ti (show zr_h 2 s (nI d) = (-11) from q0) ?_
          show jt_T 107 (34, [(0, .inr (.inr (0, 0, 0))), (1, .inl (nI d)), (2, .inl (nI c)), (3, .inl (nI w))], [.inl ((-11))], h) _
          refine jt_go jm_m107 18 2 (f' := (38, [(4, .inl ((-11))), (0, .inr (.inr (0, 0, 0))), (1, .inl (nI d)), (2, .inl (nI c)), (3, .inl (nI w))], [.inl ((-11))], h)) (P := True) rfl trivial ?_
          refine jt_ifeq jm_m107 20 (tgt := 44) (nxt := 41) rfl rfl rfl (fun c38 => ?_) (fun c38 => ?_)
          · exact absurd c38 (by decide)
          · refine jt_go jm_m107 21 1 (f' := (43, [(4, .inl ((-11))), (0, .inr (.inr (0, 0, 0))), (1, .inl (nI d)), (2, .inl (nI c)), (3, .inl (nI w))], [.inl ((-11))], h)) (P := True) rfl trivial ?_
            refine jt_iret jm_m107 22 rfl ?_
            refine ⟨jt_li ?_, jf_fr_rf⟩
            refine Eq.trans ?_ (if_pos ⟨c15, c24⟩).symm
            rw [q0]
            rfl
        · refine jt_ti (show zr_h 2 s (nI d) = (-12) from q0) ?_
          show jt_T 107 (34, [(0, .inr (.inr (0, 0, 0))), (1, .inl (nI d)), (2, .inl (nI c)), (3, .inl (nI w))], [.inl ((-12))], h) _
          refine jt_go jm_m107 18 2 (f' := (38, [(4, .inl ((-12))), (0, .inr (.inr (0, 0, 0))), (1, .inl (nI d)), (2, .inl (nI c)), (3, .inl (nI w))], [.inl ((-12))], h)) (P := True) rfl trivial ?_
          refine jt_ifeq jm_m107 20 (tgt := 44) (nxt := 41) rfl rfl rfl (fun c38 => ?_) (fun c38 => ?_)
          · exact absurd c38 (by decide)
          · refine jt_go jm_m107 21 1 (f' := (43, [(4, .inl ((-12))), (0, .inr (.inr (0, 0, 0))), (1, .inl (nI d)), (2, .inl (nI c)), (3, .inl (nI w))], [.inl ((-12))], h)) (P := True) rfl trivial ?_
            refine jt_iret jm_m107 22 rfl ?_
            refine ⟨jt_li ?_, jf_fr_rf⟩
            refine Eq.trans ?_ (if_pos ⟨c15, c24⟩).symm
            rw [q0]
            rfl
        · refine jt_ti (show zr_h 2 s (nI d) = nI 0 from q0) ?_
          show jt_T 107 (34, [(0, .inr (.inr (0, 0, 0))), (1, .inl (nI d)), (2, .inl (nI c)), (3, .inl (nI w))], [.inl (nI 0)], h) _
          refine jt_go jm_m107 18 2 (f' := (38, [(4, .inl (nI 0)), (0, .inr (.inr (0, 0, 0))), (1, .inl (nI d)), (2, .inl (nI c)), (3, .inl (nI w))], [.inl (nI 0)], h)) (P := True) rfl trivial ?_
          refine jt_nifeq jm_m107 20 (by omega) (tgt := 44) (nxt := 41) rfl rfl rfl (fun c38 => ?_) (fun c38 => ?_)
          · refine jt_go jm_m107 23 1 (f' := (45, [(4, .inl (nI 0)), (0, .inr (.inr (0, 0, 0))), (1, .inl (nI d)), (2, .inl (nI c)), (3, .inl (nI w))], [.inl (nI w)], h)) (P := True) rfl trivial ?_
            refine jt_nifne jm_m107 24 (by omega) (tgt := 53) (nxt := 48) rfl rfl rfl (fun c45 => ?_) (fun c45 => ?_)
            · refine jt_go jm_m107 27 2 (f' := (55, [(4, .inl (nI 0)), (0, .inr (.inr (0, 0, 0))), (1, .inl (nI d)), (2, .inl (nI c)), (3, .inl (nI w))], [.inl (nI 1), .inl (nI w)], h)) (P := True) rfl trivial ?_
              refine jt_nicne jm_m107 29 (a := w) (b := 1) (by omega) (by omega) (tgt := 63) (nxt := 58) rfl rfl rfl (fun c55 => ?_) (fun c55 => ?_)
              · refine jt_go jm_m107 32 6 (f' := (73, [(7, .inl (nI 0)), (6, .inl (nI 0)), (5, .inl (nI 16)), (4, .inl (nI 0)), (0, .inr (.inr (0, 0, 0))), (1, .inl (nI d)), (2, .inl (nI c)), (3, .inl (nI w))], [], h)) (P := True) rfl trivial ?_
                refine jt_pick (L' := [(0, .inr (.inr (0, 0, 0))), (1, .inl (nI d)), (2, .inl (nI c)), (3, .inl (nI w)), (4, .inl (nI 0)), (5, .inl (nI 16)), (6, .inl (nI 0)), (7, .inl (nI 0))]) [4, 5, 6, 7, 3, 2, 1, 0] rfl ?_
                have el : sp_lim w = 16 := by
                  unfold sp_lim
                  first | rw [if_pos (by omega)] | (rw [if_neg (by omega)]; first | rw [if_pos (by omega)] | rw [if_neg (by omega)])
                refine jt_mono (ca_what_l (lim := 16) W K Y hd qa (w := w) (by omega) (by omega) (by omega) (by omega) (by omega) 0 (Nat.zero_le _) h R jf_fr_rf) (fun u h2 zz => ⟨zz.1.trans (jt_li ?_), zz.2⟩)
                refine Eq.trans ?_ ((if_pos q0).symm.trans (if_pos ⟨c15, c24⟩).symm)
                rw [nI_clamp (n := d) (by omega), nI_clamp (n := c) (by omega), nI_clamp (n := w) (by omega), el]
              · refine jt_go jm_m107 30 2 (f' := (65, [(4, .inl (nI 0)), (0, .inr (.inr (0, 0, 0))), (1, .inl (nI d)), (2, .inl (nI c)), (3, .inl (nI w))], [.inl (nI 10)], h)) (P := True) rfl trivial ?_
                refine jt_go jm_m107 33 5 (f' := (73, [(7, .inl (nI 0)), (6, .inl (nI 0)), (5, .inl (nI 10)), (4, .inl (nI 0)), (0, .inr (.inr (0, 0, 0))), (1, .inl (nI d)), (2, .inl (nI c)), (3, .inl (nI w))], [], h)) (P := True) rfl trivial ?_
                refine jt_pick (L' := [(0, .inr (.inr (0, 0, 0))), (1, .inl (nI d)), (2, .inl (nI c)), (3, .inl (nI w)), (4, .inl (nI 0)), (5, .inl (nI 10)), (6, .inl (nI 0)), (7, .inl (nI 0))]) [4, 5, 6, 7, 3, 2, 1, 0] rfl ?_
                have el : sp_lim w = 10 := by
                  unfold sp_lim
                  first | rw [if_pos (by omega)] | (rw [if_neg (by omega)]; first | rw [if_pos (by omega)] | rw [if_neg (by omega)])
                refine jt_mono (ca_what_l (lim := 10) W K Y hd qa (w := w) (by omega) (by omega) (by omega) (by omega) (by omega) 0 (Nat.zero_le _) h R jf_fr_rf) (fun u h2 zz => ⟨zz.1.trans (jt_li ?_), zz.2⟩)
                refine Eq.trans ?_ ((if_pos q0).symm.trans (if_pos ⟨c15, c24⟩).symm)
                rw [nI_clamp (n := d) (by omega), nI_clamp (n := c) (by omega), nI_clamp (n := w) (by omega), el]
            · refine jt_go jm_m107 25 2 (f' := (65, [(4, .inl (nI 0)), (0, .inr (.inr (0, 0, 0))), (1, .inl (nI d)), (2, .inl (nI c)), (3, .inl (nI w))], [.inl (nI 8)], h)) (P := True) rfl trivial ?_
              refine jt_go jm_m107 33 5 (f' := (73, [(7, .inl (nI 0)), (6, .inl (nI 0)), (5, .inl (nI 8)), (4, .inl (nI 0)), (0, .inr (.inr (0, 0, 0))), (1, .inl (nI d)), (2, .inl (nI c)), (3, .inl (nI w))], [], h)) (P := True) rfl trivial ?_
              refine jt_pick (L' := [(0, .inr (.inr (0, 0, 0))), (1, .inl (nI d)), (2, .inl (nI c)), (3, .inl (nI w)), (4, .inl (nI 0)), (5, .inl (nI 8)), (6, .inl (nI 0)), (7, .inl (nI 0))]) [4, 5, 6, 7, 3, 2, 1, 0] rfl ?_
              have el : sp_lim w = 8 := by
                unfold sp_lim
                first | rw [if_pos (by omega)] | (rw [if_neg (by omega)]; first | rw [if_pos (by omega)] | rw [if_neg (by omega)])
              refine jt_mono (ca_what_l (lim := 8) W K Y hd qa (w := w) (by omega) (by omega) (by omega) (by omega) (by omega) 0 (Nat.zero_le _) h R jf_fr_rf) (fun u h2 zz => ⟨zz.1.trans (jt_li ?_), zz.2⟩)
              refine Eq.trans ?_ ((if_pos q0).symm.trans (if_pos ⟨c15, c24⟩).symm)
              rw [nI_clamp (n := d) (by omega), nI_clamp (n := c) (by omega), nI_clamp (n := w) (by omega), el]
          · exact absurd c38 (by decide)
      · refine jt_go jm_m107 13 1 (f' := (28, [(0, .inr (.inr (0, 0, 0))), (1, .inl (x)), (2, .inl (nI c)), (3, .inl (z))], [.inl ((-1))], h)) (P := True) rfl trivial ?_
        refine jt_iret jm_m107 14 rfl ?_
        exact ⟨jt_li (if_neg (fun z => c24 z.2)).symm, jf_fr_rf⟩
