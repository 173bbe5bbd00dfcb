/-! TEXT: the reference reads a statement. -/
/-- the numbers of a statement -/
def tx_nu (s : Nat → Nat → Nat) (e : Nat → Nat → Int32) (d p : Nat) (f : Nat → Int32) : Prop := (cc s e d p = 99 → f 0 = nI (sp_num s e d (p + 1) 1) ∧ f 1 = nI (sp_num s e d (p + 2) 1) ∧ f 2 = nI (sp_num s e d (p + 3) 2)) ∧ (cc s e d p = 109 → f 0 = nI (sp_num s e d (p + 1) 1)) ∧ (cc s e d p = 102 ∨ cc s e d p = 120 → f 0 = nI (sp_num s e d (p + 1) 2) ∧ f 1 = nI (sp_num s e d (p + 3) 1)) ∧ (cc s e d p = 119 → f 0 = nI (sp_num s e d (p + 1) 1) ∧ f 1 = nI (sp_num s e d (p + 2) 1)) ∧ (cc s e d p = 104 → f 0 = nI (sp_num s e d (p + 1) 2))
theorem rs_ext {s : Nat → Nat → Nat} {e : Nat → Nat → Int32} {d p : Nat} {b m : Nat} (A : ∀ j, 1 ≤ j → j < b → dgt s e d (p + j)) (z : dgs s e d (p + b) m) : ∀ j, 1 ≤ j → j < b + m → dgt s e d (p + j) := fun j h1 h2 => by
  by_cases q : j < b
  · exact A j h1 q
  · have := z (j - b) (by omega)
    rw [show p + b + (j - b) = p + j by omega] at this
    exact this
theorem rs_bad {h h2 : jm_M} {s : Nat → Nat → Nat} {e : Nat → Nat → Int32} {d p : Nat} {q : Nat} (E : st_bad s e d p = some q) (F : jp_fr h h2) (J : jp_st h2 s d q) : (some (.inl (nI 0)) : Option jm_V) = some (.inl (jm_b (st_bad s e d p = none))) ∧ jp_fr h h2 ∧ (st_bad s e d p = none → jp_st h2 s d (p + dg (cc s e d p) + 2) ∧ tx_nu s e d p (h2 (4, 0, 1))) ∧ (∀ r, st_bad s e d p = some r → jp_st h2 s d r) := by
  refine ⟨jt_lb0 (fun z => ?_), F, fun z => ?_, fun r hr => ?_⟩
  · rw [E] at z; cases z
  · rw [E] at z; cases z
  · rw [E] at hr; cases hr; exact J
theorem rs_num {h h2 : jm_M} {s : Nat → Nat → Nat} {e : Nat → Nat → Int32} {d p : Nat} {b m i : Nat} (h0 : ¬ dg (cc s e d p) = 0) (hb : 1 ≤ b) (hm : b + m ≤ dg (cc s e d p) + 1) (A : ∀ j, 1 ≤ j → j < b → dgt s e d (p + j)) (hi : i < m) (Z : dgs s e d (p + b) i) (nd : ¬ dgt s e d (p + b + i)) (F : jp_fr h h2) (J : jp_st h2 s d (p + b + i)) : (some (.inl (nI 0)) : Option jm_V) = some (.inl (jm_b (st_bad s e d p = none))) ∧ jp_fr h h2 ∧ (st_bad s e d p = none → jp_st h2 s d (p + dg (cc s e d p) + 2) ∧ tx_nu s e d p (h2 (4, 0, 1))) ∧ (∀ r, st_bad s e d p = some r → jp_st h2 s d r) :=
  rs_bad (q := p + b + i) (by rw [Nat.add_assoc]; exact txs_dig h0 (by omega) (by omega) (rs_ext A Z) (by rw [← Nat.add_assoc]; exact nd)) F J
theorem rs_semi {h h2 : jm_M} {s : Nat → Nat → Nat} {e : Nat → Nat → Int32} {d p : Nat} {b : Nat} (h0 : ¬ dg (cc s e d p) = 0) (hb : b = dg (cc s e d p) + 1) (A : ∀ j, 1 ≤ j → j < b → dgt s e d (p + j)) (n9 : ¬ cc s e d (p + b) = 59) (F : jp_fr h h2) (J : jp_st h2 s d (p + b)) : (some (.inl (nI 0)) : Option jm_V) = some (.inl (jm_b (st_bad s e d p = none))) ∧ jp_fr h h2 ∧ (st_bad s e d p = none → jp_st h2 s d (p + dg (cc s e d p) + 2) ∧ tx_nu s e d p (h2 (4, 0, 1))) ∧ (∀ r, st_bad s e d p = some r → jp_st h2 s d r) := by
  subst hb
  exact rs_bad (q := p + (dg (cc s e d p) + 1)) ((txs_all h0 (fun j h1 h2 => A j h1 (by omega))).trans (if_neg n9)) F J
theorem rs_ok {h h2 : jm_M} {s : Nat → Nat → Nat} {e : Nat → Nat → Int32} {d p : Nat} {b : Nat} (h0 : ¬ dg (cc s e d p) = 0) (hb : b = dg (cc s e d p) + 1) (A : ∀ j, 1 ≤ j → j < b → dgt s e d (p + j)) (n9 : cc s e d (p + b) = 59) (F : jp_fr h h2) (J : jp_st h2 s d (p + b + 1)) (N : tx_nu s e d p (h2 (4, 0, 1))) : (some (.inl (nI 1)) : Option jm_V) = some (.inl (jm_b (st_bad s e d p = none))) ∧ jp_fr h h2 ∧ (st_bad s e d p = none → jp_st h2 s d (p + dg (cc s e d p) + 2) ∧ tx_nu s e d p (h2 (4, 0, 1))) ∧ (∀ r, st_bad s e d p = some r → jp_st h2 s d r) := by
  subst hb
  have E : st_bad s e d p = none := (txs_all h0 (fun j h1 h2 => A j h1 (by omega))).trans (if_pos n9)
  refine ⟨jt_lb1 E, F, fun _ => ⟨J, N⟩, fun r hr => ?_⟩
  rw [E] at hr; cases hr
theorem rs_lt {s : Nat → Nat → Nat} {e : Nat → Nat → Int32} {d p : Nat} (h : ¬ dg (cc s e d p) = 0) (bz : s d 4 ≤ 100) : p < 100 := by
  by_cases q : p < s d 4
  · omega
  · rw [cc_0 q] at h; exact absurd rfl h
set_option maxHeartbeats 4000000 in
set_option maxRecDepth 20000 in
theorem tb_rs {h : jm_M} {s : Nat → Nat → Nat} {e : Nat → Nat → Int32} (K : jl_rel h s e) (Y : kw s) (B : ke s e) {d : Nat} (hd : d ≤ 7) (qa : s d 0 = 2) (q3 : s d 3 = 0) {p : Nat} (hp : p ≤ 100) (J : jp_st h s d p)  : jt_T 170 (0, [(0, .inr (.inr (4, 0, 0)))], [], h) (fun u h' => u = some (.inl (jm_b (st_bad s e d p = none))) ∧ jp_fr h h' ∧ (st_bad s e d p = none → jp_st h' s d (p + dg (cc s e d p) + 2) ∧ tx_nu s e d p (h' (4, 0, 1))) ∧ (∀ r, st_bad s e d p = some r → jp_st h' s d r)) := by
  have bz := kw_z Y (d := d) (by omega) qa
  have A1 : ∀ j, 1 ≤ j → j < 1 → dgt s e d (p + j) := fun j h1 h2 => absurd h1 (by omega)
  refine jt_go jm_m170 0 1 (f' := (1, [(0, .inr (.inr (4, 0, 0)))], [.inr (.inr (4, 0, 0))], h)) (P := True) rfl trivial ?_
  refine jt_callp (w := .inl (hv s e d (p))) jm_m170 1 (mi' := 168) (as := [.inr (.inr (4, 0, 0))]) (rest := []) (nxt := 4) rfl rfl jm_m168 rfl rfl (tb_here K Y B hd qa q3 (by omega) J) ?_
  refine jt_go jm_m170 2 4 (f' := (10, [(1, .inl (hv s e d (p))), (0, .inr (.inr (4, 0, 0)))], [.inl (h (4, 0, 0) 5), .inr (.inr (4, 0, 0))], h)) (P := True) rfl trivial ?_
  refine jt_ti (show (h (4, 0, 0) 5) = nI p from J.1) ?_
  refine jt_go jm_m170 6 2 (f' := (12, [(1, .inl (hv s e d (p))), (0, .inr (.inr (4, 0, 0)))], [.inl ((nI p) + (nI 1)), .inr (.inr (4, 0, 0))], h)) (P := True) rfl trivial ?_
  refine jt_ti (show ((nI p) + (nI 1)) = nI (p + 1) from nI_add _ _) ?_
  refine jt_goM jm_m170 8 1 (pc' := 15) (L' := [(1, .inl (hv s e d (p))), (0, .inr (.inr (4, 0, 0)))]) (st' := []) (m' := jm_set h (4, 0, 0) (upd (h (4, 0, 0)) 5 (nI (p + 1)))) (P := True) rfl trivial (fun h1 eh1 => ?_)
  have Fh1 : jp_fr h h1 := by rw [eh1]; exact jp_p jp_rf
  have Jh1 : jp_st h1 s d (p + 1) := by rw [eh1]; exact jp_sp J
  have Kh1 := jl_mvp K Fh1
  have Nh1 : h1 (4, 0, 1) = h (4, 0, 1) := by rw [eh1, jm_set_ne (by decide)]
  refine jt_go jm_m170 9 1 (f' := (16, [(1, .inl (hv s e d (p))), (0, .inr (.inr (4, 0, 0)))], [.inl (hv s e d (p))], h1)) (P := True) rfl trivial ?_
  refine jt_ls jm_m170 10 rfl ⟨fun d0 => ?_, fun d0 => ⟨fun d1 => ?_, fun d1 => ⟨fun d2 => ?_, fun d2 => ⟨fun d3 => ?_, fun d3 => ⟨fun d4 => ?_, fun d4 => ⟨fun d5 => ?_, fun d5 => ?_⟩⟩⟩⟩⟩⟩
  · have d0 : hv s e d (p) = nI 99 := d0
    show jt_T 170 (76, [(1, .inl (hv s e d (p))), (0, .inr (.inr (4, 0, 0)))], [], h1) _
    refine jt_go jm_m170 11 3 (f' := (79, [(1, .inl (hv s e d (p))), (0, .inr (.inr (4, 0, 0)))], [.inl (nI 1), .inl (nI 0), .inr (.inr (4, 0, 0))], h1)) (P := True) rfl trivial ?_
    refine jt_call jm_m170 14 (mi' := 169) (as := [.inr (.inr (4, 0, 0)), .inl (nI 0), .inl (nI 1)]) (rest := []) (nxt := 82) rfl rfl jm_m169 rfl rfl (tb_rn Kh1 Y B hd qa q3 (by omega) (by decide) (by decide) Jh1) ?_
    rintro u h2 ⟨rfl, Gh2, P1, P2⟩
    show jt_T 170 (82, [(1, .inl (hv s e d (p))), (0, .inr (.inr (4, 0, 0)))], [.inl (jm_b (dgs s e d (p + 1) 1))], h2) _
    have Fh2 := jp_tr Fh1 Gh2
    have Kh2 := jl_mvp K Fh2
    by_cases za1 : dgs s e d (p + 1) 1
    · obtain ⟨Jh2, Nh2⟩ := P1 za1
      rw [Nh1] at Nh2
      have A2 : ∀ j, 1 ≤ j → j < 2 → dgt s e d (p + j) := rs_ext A1 za1
      refine jt_ti (show jm_b (dgs s e d (p + 1) 1) = nI 1 from jm_b_pos za1) ?_
      clear P1 P2
      show jt_T 170 (82, [(1, .inl (hv s e d (p))), (0, .inr (.inr (4, 0, 0)))], [.inl (nI 1)], h2) _
      refine jt_nifeq jm_m170 15 (by omega) (tgt := 107) (nxt := 85) rfl rfl rfl (fun c82 => ?_) (fun c82 => ?_)
      · exact absurd c82 (by decide)
      · refine jt_go jm_m170 16 3 (f' := (88, [(1, .inl (hv s e d (p))), (0, .inr (.inr (4, 0, 0)))], [.inl (nI 1), .inl (nI 1), .inr (.inr (4, 0, 0))], h2)) (P := True) rfl trivial ?_
        refine jt_call jm_m170 19 (mi' := 169) (as := [.inr (.inr (4, 0, 0)), .inl (nI 1), .inl (nI 1)]) (rest := []) (nxt := 91) rfl rfl jm_m169 rfl rfl (tb_rn Kh2 Y B hd qa q3 (by omega) (by decide) (by decide) Jh2) ?_
        rintro u h3 ⟨rfl, Gh3, P1, P2⟩
        show jt_T 170 (91, [(1, .inl (hv s e d (p))), (0, .inr (.inr (4, 0, 0)))], [.inl (jm_b (dgs s e d (p + 2) 1))], h3) _
        have Fh3 := jp_tr Fh2 Gh3
        have Kh3 := jl_mvp K Fh3
        by_cases za2 : dgs s e d (p + 2) 1
        · obtain ⟨Jh3, Nh3⟩ := P1 za2
          rw [Nh2] at Nh3
          have A3 : ∀ j, 1 ≤ j → j < 3 → dgt s e d (p + j) := rs_ext A2 za2
          refine jt_ti (show jm_b (dgs s e d (p + 2) 1) = nI 1 from jm_b_pos za2) ?_
          clear P1 P2
          show jt_T 170 (91, [(1, .inl (hv s e d (p))), (0, .inr (.inr (4, 0, 0)))], [.inl (nI 1)], h3) _
          refine jt_nifeq jm_m170 20 (by omega) (tgt := 107) (nxt := 94) rfl rfl rfl (fun c91 => ?_) (fun c91 => ?_)
          · exact absurd c91 (by decide)
          · refine jt_go jm_m170 21 3 (f' := (97, [(1, .inl (hv s e d (p))), (0, .inr (.inr (4, 0, 0)))], [.inl (nI 2), .inl (nI 2), .inr (.inr (4, 0, 0))], h3)) (P := True) rfl trivial ?_
            refine jt_call jm_m170 24 (mi' := 169) (as := [.inr (.inr (4, 0, 0)), .inl (nI 2), .inl (nI 2)]) (rest := []) (nxt := 100) rfl rfl jm_m169 rfl rfl (tb_rn Kh3 Y B hd qa q3 (by omega) (by decide) (by decide) Jh3) ?_
            rintro u h4 ⟨rfl, Gh4, P1, P2⟩
            show jt_T 170 (100, [(1, .inl (hv s e d (p))), (0, .inr (.inr (4, 0, 0)))], [.inl (jm_b (dgs s e d (p + 3) 2))], h4) _
            have Fh4 := jp_tr Fh3 Gh4
            have Kh4 := jl_mvp K Fh4
            by_cases za3 : dgs s e d (p + 3) 2
            · obtain ⟨Jh4, Nh4⟩ := P1 za3
              rw [Nh3] at Nh4
              have A5 : ∀ j, 1 ≤ j → j < 5 → dgt s e d (p + j) := rs_ext A3 za3
              refine jt_ti (show jm_b (dgs s e d (p + 3) 2) = nI 1 from jm_b_pos za3) ?_
              clear P1 P2
              show jt_T 170 (100, [(1, .inl (hv s e d (p))), (0, .inr (.inr (4, 0, 0)))], [.inl (nI 1)], h4) _
              refine jt_nifeq jm_m170 25 (by omega) (tgt := 107) (nxt := 103) rfl rfl rfl (fun c100 => ?_) (fun c100 => ?_)
              · exact absurd c100 (by decide)
              · refine jt_go jm_m170 26 2 (f' := (108, [(1, .inl (hv s e d (p))), (0, .inr (.inr (4, 0, 0)))], [.inl (nI 1)], h4)) (P := True) rfl trivial ?_
                refine jt_go jm_m170 29 2 (f' := (198, [(2, .inl (nI 1)), (1, .inl (hv s e d (p))), (0, .inr (.inr (4, 0, 0)))], [], h4)) (P := True) rfl trivial ?_
                refine jt_go jm_m170 81 1 (f' := (199, [(2, .inl (nI 1)), (1, .inl (hv s e d (p))), (0, .inr (.inr (4, 0, 0)))], [.inl (nI 1)], h4)) (P := True) rfl trivial ?_
                refine jt_nifeq jm_m170 82 (by omega) (tgt := 211) (nxt := 202) rfl rfl rfl (fun c199 => ?_) (fun c199 => ?_)
                · exact absurd c199 (by decide)
                · refine jt_go jm_m170 83 1 (f' := (203, [(2, .inl (nI 1)), (1, .inl (hv s e d (p))), (0, .inr (.inr (4, 0, 0)))], [.inr (.inr (4, 0, 0))], h4)) (P := True) rfl trivial ?_
                  refine jt_callp (w := .inl (hv s e d (p + 5))) jm_m170 84 (mi' := 168) (as := [.inr (.inr (4, 0, 0))]) (rest := []) (nxt := 206) rfl rfl jm_m168 rfl rfl (tb_here Kh4 Y B hd qa q3 (by omega) Jh4) ?_
                  refine jt_go jm_m170 85 1 (f' := (208, [(2, .inl (nI 1)), (1, .inl (hv s e d (p))), (0, .inr (.inr (4, 0, 0)))], [.inl (nI 59), .inl (hv s e d (p + 5))], h4)) (P := True) rfl trivial ?_
                  refine jt_iceq jm_m170 86 (tgt := 213) (nxt := 211) rfl rfl rfl (fun c208 => ?_) (fun c208 => ?_)
                  · refine jt_go jm_m170 89 3 (f' := (218, [(2, .inl (nI 1)), (1, .inl (hv s e d (p))), (0, .inr (.inr (4, 0, 0)))], [.inl (h4 (4, 0, 0) 5), .inr (.inr (4, 0, 0))], h4)) (P := True) rfl trivial ?_
                    refine jt_ti (show (h4 (4, 0, 0) 5) = nI (p + 5) from Jh4.1) ?_
                    refine jt_go jm_m170 92 2 (f' := (220, [(2, .inl (nI 1)), (1, .inl (hv s e d (p))), (0, .inr (.inr (4, 0, 0)))], [.inl ((nI (p + 5)) + (nI 1)), .inr (.inr (4, 0, 0))], h4)) (P := True) rfl trivial ?_
                    refine jt_ti (show ((nI (p + 5)) + (nI 1)) = nI (p + 5 + 1) from nI_add _ _) ?_
                    refine jt_goM jm_m170 94 1 (pc' := 223) (L' := [(2, .inl (nI 1)), (1, .inl (hv s e d (p))), (0, .inr (.inr (4, 0, 0)))]) (st' := []) (m' := jm_set h4 (4, 0, 0) (upd (h4 (4, 0, 0)) 5 (nI (p + 5 + 1)))) (P := True) rfl trivial (fun h5 eh5 => ?_)
                    have Fh5 : jp_fr h h5 := by rw [eh5]; exact jp_p Fh4
                    have Jh5 : jp_st h5 s d (p + 5 + 1) := by rw [eh5]; exact jp_sp Jh4
                    have Kh5 := jl_mvp K Fh5
                    have Nh5 : h5 (4, 0, 1) = upd (upd (upd (h (4, 0, 1)) 0 (nI (sp_num s e d (p + 1) 1))) 1 (nI (sp_num s e d (p + 2) 1))) 2 (nI (sp_num s e d (p + 3) 2)) := by rw [eh5, jm_set_ne (by decide)]; exact Nh4
                    refine jt_go jm_m170 95 1 (f' := (224, [(2, .inl (nI 1)), (1, .inl (hv s e d (p))), (0, .inr (.inr (4, 0, 0)))], [.inl (nI 1)], h5)) (P := True) rfl trivial ?_
                    refine jt_zret jm_m170 96 rfl (Or.inr rfl) ?_
                    have hL : dg (cc s e d p) = 4 := by rw [(hv_eq Y B hd qa q3 (by decide) (by decide)).mp d0]; rfl
                    have hc : cc s e d p = 99 := (hv_eq Y B hd qa q3 (by decide) (by decide)).mp d0
                    exact rs_ok (b := 5) (by omega) (by omega) A5 ((hv_eq Y B hd qa q3 (by decide) (by decide)).mp c208) Fh5 Jh5 ⟨fun _ => ⟨by rw [Nh5]; first | exact jx_eq _ _ _ | exact (jx_ne (by decide)).trans (jx_eq _ _ _) | exact (jx_ne (by decide)).trans ((jx_ne (by decide)).trans (jx_eq _ _ _)), by rw [Nh5]; first | exact jx_eq _ _ _ | exact (jx_ne (by decide)).trans (jx_eq _ _ _) | exact (jx_ne (by decide)).trans ((jx_ne (by decide)).trans (jx_eq _ _ _)), by rw [Nh5]; first | exact jx_eq _ _ _ | exact (jx_ne (by decide)).trans (jx_eq _ _ _) | exact (jx_ne (by decide)).trans ((jx_ne (by decide)).trans (jx_eq _ _ _))⟩, fun z => absurd z (by omega), fun z => absurd z (by omega), fun z => absurd z (by omega), fun z => absurd z (by omega)⟩
                  · refine jt_go jm_m170 87 1 (f' := (212, [(2, .inl (nI 1)), (1, .inl (hv s e d (p))), (0, .inr (.inr (4, 0, 0)))], [.inl (nI 0)], h4)) (P := True) rfl trivial ?_
                    refine jt_zret jm_m170 88 rfl (Or.inl rfl) ?_
                    have hL : dg (cc s e d p) = 4 := by rw [(hv_eq Y B hd qa q3 (by decide) (by decide)).mp d0]; rfl
                    exact rs_semi (b := 5) (by omega) (by omega) A5 (fun z => c208 ((hv_eq Y B hd qa q3 (by decide) (by decide)).mpr z)) Fh4 Jh4
            · obtain ⟨i0, hi0, Z0, nd0, Jh4⟩ := P2 za3
              refine jt_ti (show jm_b (dgs s e d (p + 3) 2) = nI 0 from jm_b_neg za3) ?_
              show jt_T 170 (100, [(1, .inl (hv s e d (p))), (0, .inr (.inr (4, 0, 0)))], [.inl (nI 0)], h4) _
              refine jt_nifeq jm_m170 25 (by omega) (tgt := 107) (nxt := 103) rfl rfl rfl (fun c100 => ?_) (fun c100 => ?_)
              · refine jt_go jm_m170 28 3 (f' := (198, [(2, .inl (nI 0)), (1, .inl (hv s e d (p))), (0, .inr (.inr (4, 0, 0)))], [], h4)) (P := True) rfl trivial ?_
                refine jt_go jm_m170 81 1 (f' := (199, [(2, .inl (nI 0)), (1, .inl (hv s e d (p))), (0, .inr (.inr (4, 0, 0)))], [.inl (nI 0)], h4)) (P := True) rfl trivial ?_
                refine jt_nifeq jm_m170 82 (by omega) (tgt := 211) (nxt := 202) rfl rfl rfl (fun c199 => ?_) (fun c199 => ?_)
                · refine jt_go jm_m170 87 1 (f' := (212, [(2, .inl (nI 0)), (1, .inl (hv s e d (p))), (0, .inr (.inr (4, 0, 0)))], [.inl (nI 0)], h4)) (P := True) rfl trivial ?_
                  refine jt_zret jm_m170 88 rfl (Or.inl rfl) ?_
                  have hL : dg (cc s e d p) = 4 := by rw [(hv_eq Y B hd qa q3 (by decide) (by decide)).mp d0]; rfl
                  exact rs_num (b := 3) (m := 2) (by omega) (by omega) (by omega) A3 hi0 Z0 nd0 Fh4 Jh4
                · exact absurd c199 (by decide)
              · exact absurd c100 (by decide)
        · obtain ⟨i0, hi0, Z0, nd0, Jh3⟩ := P2 za2
          refine jt_ti (show jm_b (dgs s e d (p + 2) 1) = nI 0 from jm_b_neg za2) ?_
          show jt_T 170 (91, [(1, .inl (hv s e d (p))), (0, .inr (.inr (4, 0, 0)))], [.inl (nI 0)], h3) _
          refine jt_nifeq jm_m170 20 (by omega) (tgt := 107) (nxt := 94) rfl rfl rfl (fun c91 => ?_) (fun c91 => ?_)
          · refine jt_go jm_m170 28 3 (f' := (198, [(2, .inl (nI 0)), (1, .inl (hv s e d (p))), (0, .inr (.inr (4, 0, 0)))], [], h3)) (P := True) rfl trivial ?_
            refine jt_go jm_m170 81 1 (f' := (199, [(2, .inl (nI 0)), (1, .inl (hv s e d (p))), (0, .inr (.inr (4, 0, 0)))], [.inl (nI 0)], h3)) (P := True) rfl trivial ?_
            refine jt_nifeq jm_m170 82 (by omega) (tgt := 211) (nxt := 202) rfl rfl rfl (fun c199 => ?_) (fun c199 => ?_)
            · refine jt_go jm_m170 87 1 (f' := (212, [(2, .inl (nI 0)), (1, .inl (hv s e d (p))), (0, .inr (.inr (4, 0, 0)))], [.inl (nI 0)], h3)) (P := True) rfl trivial ?_
              refine jt_zret jm_m170 88 rfl (Or.inl rfl) ?_
              have hL : dg (cc s e d p) = 4 := by rw [(hv_eq Y B hd qa q3 (by decide) (by decide)).mp d0]; rfl
              exact rs_num (b := 2) (m := 1) (by omega) (by omega) (by omega) A2 hi0 Z0 nd0 Fh3 Jh3
            · exact absurd c199 (by decide)
          · exact absurd c91 (by decide)
    · obtain ⟨i0, hi0, Z0, nd0, Jh2⟩ := P2 za1
      refine jt_ti (show jm_b (dgs s e d (p + 1) 1) = nI 0 from jm_b_neg za1) ?_
      show jt_T 170 (82, [(1, .inl (hv s e d (p))), (0, .inr (.inr (4, 0, 0)))], [.inl (nI 0)], h2) _
      refine jt_nifeq jm_m170 15 (by omega) (tgt := 107) (nxt := 85) rfl rfl rfl (fun c82 => ?_) (fun c82 => ?_)
      · refine jt_go jm_m170 28 3 (f' := (198, [(2, .inl (nI 0)), (1, .inl (hv s e d (p))), (0, .inr (.inr (4, 0, 0)))], [], h2)) (P := True) rfl trivial ?_
        refine jt_go jm_m170 81 1 (f' := (199, [(2, .inl (nI 0)), (1, .inl (hv s e d (p))), (0, .inr (.inr (4, 0, 0)))], [.inl (nI 0)], h2)) (P := True) rfl trivial ?_
        refine jt_nifeq jm_m170 82 (by omega) (tgt := 211) (nxt := 202) rfl rfl rfl (fun c199 => ?_) (fun c199 => ?_)
        · refine jt_go jm_m170 87 1 (f' := (212, [(2, .inl (nI 0)), (1, .inl (hv s e d (p))), (0, .inr (.inr (4, 0, 0)))], [.inl (nI 0)], h2)) (P := True) rfl trivial ?_
          refine jt_zret jm_m170 88 rfl (Or.inl rfl) ?_
          have hL : dg (cc s e d p) = 4 := by rw [(hv_eq Y B hd qa q3 (by decide) (by decide)).mp d0]; rfl
          exact rs_num (b := 1) (m := 1) (by omega) (by omega) (by omega) A1 hi0 Z0 nd0 Fh2 Jh2
        · exact absurd c199 (by decide)
      · exact absurd c82 (by decide)
  · have d1 : hv s e d (p) = nI 102 := d1
    show jt_T 170 (122, [(1, .inl (hv s e d (p))), (0, .inr (.inr (4, 0, 0)))], [], h1) _
    refine jt_go jm_m170 37 3 (f' := (125, [(1, .inl (hv s e d (p))), (0, .inr (.inr (4, 0, 0)))], [.inl (nI 2), .inl (nI 0), .inr (.inr (4, 0, 0))], h1)) (P := True) rfl trivial ?_
    refine jt_call jm_m170 40 (mi' := 169) (as := [.inr (.inr (4, 0, 0)), .inl (nI 0), .inl (nI 2)]) (rest := []) (nxt := 128) rfl rfl jm_m169 rfl rfl (tb_rn Kh1 Y B hd qa q3 (by omega) (by decide) (by decide) Jh1) ?_
    rintro u h6 ⟨rfl, Gh6, P1, P2⟩
    show jt_T 170 (128, [(1, .inl (hv s e d (p))), (0, .inr (.inr (4, 0, 0)))], [.inl (jm_b (dgs s e d (p + 1) 2))], h6) _
    have Fh6 := jp_tr Fh1 Gh6
    have Kh6 := jl_mvp K Fh6
    by_cases za4 : dgs s e d (p + 1) 2
    · obtain ⟨Jh6, Nh6⟩ := P1 za4
      rw [Nh1] at Nh6
      have A3 : ∀ j, 1 ≤ j → j < 3 → dgt s e d (p + j) := rs_ext A1 za4
      refine jt_ti (show jm_b (dgs s e d (p + 1) 2) = nI 1 from jm_b_pos za4) ?_
      clear P1 P2
      show jt_T 170 (128, [(1, .inl (hv s e d (p))), (0, .inr (.inr (4, 0, 0)))], [.inl (nI 1)], h6) _
      refine jt_nifeq jm_m170 41 (by omega) (tgt := 144) (nxt := 131) rfl rfl rfl (fun c128 => ?_) (fun c128 => ?_)
      · exact absurd c128 (by decide)
      · refine jt_go jm_m170 42 3 (f' := (134, [(1, .inl (hv s e d (p))), (0, .inr (.inr (4, 0, 0)))], [.inl (nI 1), .inl (nI 1), .inr (.inr (4, 0, 0))], h6)) (P := True) rfl trivial ?_
        refine jt_call jm_m170 45 (mi' := 169) (as := [.inr (.inr (4, 0, 0)), .inl (nI 1), .inl (nI 1)]) (rest := []) (nxt := 137) rfl rfl jm_m169 rfl rfl (tb_rn Kh6 Y B hd qa q3 (by omega) (by decide) (by decide) Jh6) ?_
        rintro u h7 ⟨rfl, Gh7, P1, P2⟩
        show jt_T 170 (137, [(1, .inl (hv s e d (p))), (0, .inr (.inr (4, 0, 0)))], [.inl (jm_b (dgs s e d (p + 3) 1))], h7) _
        have Fh7 := jp_tr Fh6 Gh7
        have Kh7 := jl_mvp K Fh7
        by_cases za5 : dgs s e d (p + 3) 1
        · obtain ⟨Jh7, Nh7⟩ := P1 za5
          rw [Nh6] at Nh7
          have A4 : ∀ j, 1 ≤ j → j < 4 → dgt s e d (p + j) := rs_ext A3 za5
          refine jt_ti (show jm_b (dgs s e d (p + 3) 1) = nI 1 from jm_b_pos za5) ?_
          clear P1 P2
          show jt_T 170 (137, [(1, .inl (hv s e d (p))), (0, .inr (.inr (4, 0, 0)))], [.inl (nI 1)], h7) _
          refine jt_nifeq jm_m170 46 (by omega) (tgt := 144) (nxt := 140) rfl rfl rfl (fun c137 => ?_) (fun c137 => ?_)
          · exact absurd c137 (by decide)
          · refine jt_go jm_m170 47 2 (f' := (145, [(1, .inl (hv s e d (p))), (0, .inr (.inr (4, 0, 0)))], [.inl (nI 1)], h7)) (P := True) rfl trivial ?_
            refine jt_go jm_m170 50 2 (f' := (198, [(2, .inl (nI 1)), (1, .inl (hv s e d (p))), (0, .inr (.inr (4, 0, 0)))], [], h7)) (P := True) rfl trivial ?_
            refine jt_go jm_m170 81 1 (f' := (199, [(2, .inl (nI 1)), (1, .inl (hv s e d (p))), (0, .inr (.inr (4, 0, 0)))], [.inl (nI 1)], h7)) (P := True) rfl trivial ?_
            refine jt_nifeq jm_m170 82 (by omega) (tgt := 211) (nxt := 202) rfl rfl rfl (fun c199 => ?_) (fun c199 => ?_)
            · exact absurd c199 (by decide)
            · refine jt_go jm_m170 83 1 (f' := (203, [(2, .inl (nI 1)), (1, .inl (hv s e d (p))), (0, .inr (.inr (4, 0, 0)))], [.inr (.inr (4, 0, 0))], h7)) (P := True) rfl trivial ?_
              refine jt_callp (w := .inl (hv s e d (p + 4))) jm_m170 84 (mi' := 168) (as := [.inr (.inr (4, 0, 0))]) (rest := []) (nxt := 206) rfl rfl jm_m168 rfl rfl (tb_here Kh7 Y B hd qa q3 (by omega) Jh7) ?_
              refine jt_go jm_m170 85 1 (f' := (208, [(2, .inl (nI 1)), (1, .inl (hv s e d (p))), (0, .inr (.inr (4, 0, 0)))], [.inl (nI 59), .inl (hv s e d (p + 4))], h7)) (P := True) rfl trivial ?_
              refine jt_iceq jm_m170 86 (tgt := 213) (nxt := 211) rfl rfl rfl (fun c208 => ?_) (fun c208 => ?_)
              · refine jt_go jm_m170 89 3 (f' := (218, [(2, .inl (nI 1)), (1, .inl (hv s e d (p))), (0, .inr (.inr (4, 0, 0)))], [.inl (h7 (4, 0, 0) 5), .inr (.inr (4, 0, 0))], h7)) (P := True) rfl trivial ?_
                refine jt_ti (show (h7 (4, 0, 0) 5) = nI (p + 4) from Jh7.1) ?_
                refine jt_go jm_m170 92 2 (f' := (220, [(2, .inl (nI 1)), (1, .inl (hv s e d (p))), (0, .inr (.inr (4, 0, 0)))], [.inl ((nI (p + 4)) + (nI 1)), .inr (.inr (4, 0, 0))], h7)) (P := True) rfl trivial ?_
                refine jt_ti (show ((nI (p + 4)) + (nI 1)) = nI (p + 4 + 1) from nI_add _ _) ?_
                refine jt_goM jm_m170 94 1 (pc' := 223) (L' := [(2, .inl (nI 1)), (1, .inl (hv s e d (p))), (0, .inr (.inr (4, 0, 0)))]) (st' := []) (m' := jm_set h7 (4, 0, 0) (upd (h7 (4, 0, 0)) 5 (nI (p + 4 + 1)))) (P := True) rfl trivial (fun h8 eh8 => ?_)
                have Fh8 : jp_fr h h8 := by rw [eh8]; exact jp_p Fh7
                have Jh8 : jp_st h8 s d (p + 4 + 1) := by rw [eh8]; exact jp_sp Jh7
                have Kh8 := jl_mvp K Fh8
                have Nh8 : h8 (4, 0, 1) = upd (upd (h (4, 0, 1)) 0 (nI (sp_num s e d (p + 1) 2))) 1 (nI (sp_num s e d (p + 3) 1)) := by rw [eh8, jm_set_ne (by decide)]; exact Nh7
                refine jt_go jm_m170 95 1 (f' := (224, [(2, .inl (nI 1)), (1, .inl (hv s e d (p))), (0, .inr (.inr (4, 0, 0)))], [.inl (nI 1)], h8)) (P := True) rfl trivial ?_
                refine jt_zret jm_m170 96 rfl (Or.inr rfl) ?_
                have hL : dg (cc s e d p) = 3 := by rw [(hv_eq Y B hd qa q3 (by decide) (by decide)).mp d1]; rfl
                have hc : cc s e d p = 102 := (hv_eq Y B hd qa q3 (by decide) (by decide)).mp d1
                exact rs_ok (b := 4) (by omega) (by omega) A4 ((hv_eq Y B hd qa q3 (by decide) (by decide)).mp c208) Fh8 Jh8 ⟨fun z => absurd z (by omega), fun z => absurd z (by omega), fun _ => ⟨by rw [Nh8]; first | exact jx_eq _ _ _ | exact (jx_ne (by decide)).trans (jx_eq _ _ _) | exact (jx_ne (by decide)).trans ((jx_ne (by decide)).trans (jx_eq _ _ _)), by rw [Nh8]; first | exact jx_eq _ _ _ | exact (jx_ne (by decide)).trans (jx_eq _ _ _) | exact (jx_ne (by decide)).trans ((jx_ne (by decide)).trans (jx_eq _ _ _))⟩, fun z => absurd z (by omega), fun z => absurd z (by omega)⟩
              · refine jt_go jm_m170 87 1 (f' := (212, [(2, .inl (nI 1)), (1, .inl (hv s e d (p))), (0, .inr (.inr (4, 0, 0)))], [.inl (nI 0)], h7)) (P := True) rfl trivial ?_
                refine jt_zret jm_m170 88 rfl (Or.inl rfl) ?_
                have hL : dg (cc s e d p) = 3 := by rw [(hv_eq Y B hd qa q3 (by decide) (by decide)).mp d1]; rfl
                exact rs_semi (b := 4) (by omega) (by omega) A4 (fun z => c208 ((hv_eq Y B hd qa q3 (by decide) (by decide)).mpr z)) Fh7 Jh7
        · obtain ⟨i0, hi0, Z0, nd0, Jh7⟩ := P2 za5
          refine jt_ti (show jm_b (dgs s e d (p + 3) 1) = nI 0 from jm_b_neg za5) ?_
          show jt_T 170 (137, [(1, .inl (hv s e d (p))), (0, .inr (.inr (4, 0, 0)))], [.inl (nI 0)], h7) _
          refine jt_nifeq jm_m170 46 (by omega) (tgt := 144) (nxt := 140) rfl rfl rfl (fun c137 => ?_) (fun c137 => ?_)
          · refine jt_go jm_m170 49 3 (f' := (198, [(2, .inl (nI 0)), (1, .inl (hv s e d (p))), (0, .inr (.inr (4, 0, 0)))], [], h7)) (P := True) rfl trivial ?_
            refine jt_go jm_m170 81 1 (f' := (199, [(2, .inl (nI 0)), (1, .inl (hv s e d (p))), (0, .inr (.inr (4, 0, 0)))], [.inl (nI 0)], h7)) (P := True) rfl trivial ?_
            refine jt_nifeq jm_m170 82 (by omega) (tgt := 211) (nxt := 202) rfl rfl rfl (fun c199 => ?_) (fun c199 => ?_)
            · refine jt_go jm_m170 87 1 (f' := (212, [(2, .inl (nI 0)), (1, .inl (hv s e d (p))), (0, .inr (.inr (4, 0, 0)))], [.inl (nI 0)], h7)) (P := True) rfl trivial ?_
              refine jt_zret jm_m170 88 rfl (Or.inl rfl) ?_
              have hL : dg (cc s e d p) = 3 := by rw [(hv_eq Y B hd qa q3 (by decide) (by decide)).mp d1]; rfl
              exact rs_num (b := 3) (m := 1) (by omega) (by omega) (by omega) A3 hi0 Z0 nd0 Fh7 Jh7
            · exact absurd c199 (by decide)
          · exact absurd c137 (by decide)
    · obtain ⟨i0, hi0, Z0, nd0, Jh6⟩ := P2 za4
      refine jt_ti (show jm_b (dgs s e d (p + 1) 2) = nI 0 from jm_b_neg za4) ?_
      show jt_T 170 (128, [(1, .inl (hv s e d (p))), (0, .inr (.inr (4, 0, 0)))], [.inl (nI 0)], h6) _
      refine jt_nifeq jm_m170 41 (by omega) (tgt := 144) (nxt := 131) rfl rfl rfl (fun c128 => ?_) (fun c128 => ?_)
      · refine jt_go jm_m170 49 3 (f' := (198, [(2, .inl (nI 0)), (1, .inl (hv s e d (p))), (0, .inr (.inr (4, 0, 0)))], [], h6)) (P := True) rfl trivial ?_
        refine jt_go jm_m170 81 1 (f' := (199, [(2, .inl (nI 0)), (1, .inl (hv s e d (p))), (0, .inr (.inr (4, 0, 0)))], [.inl (nI 0)], h6)) (P := True) rfl trivial ?_
        refine jt_nifeq jm_m170 82 (by omega) (tgt := 211) (nxt := 202) rfl rfl rfl (fun c199 => ?_) (fun c199 => ?_)
        · refine jt_go jm_m170 87 1 (f' := (212, [(2, .inl (nI 0)), (1, .inl (hv s e d (p))), (0, .inr (.inr (4, 0, 0)))], [.inl (nI 0)], h6)) (P := True) rfl trivial ?_
          refine jt_zret jm_m170 88 rfl (Or.inl rfl) ?_
          have hL : dg (cc s e d p) = 3 := by rw [(hv_eq Y B hd qa q3 (by decide) (by decide)).mp d1]; rfl
          exact rs_num (b := 1) (m := 2) (by omega) (by omega) (by omega) A1 hi0 Z0 nd0 Fh6 Jh6
        · exact absurd c199 (by decide)
      · exact absurd c128 (by decide)
  · have d2 : hv s e d (p) = nI 104 := d2
    show jt_T 170 (176, [(1, .inl (hv s e d (p))), (0, .inr (.inr (4, 0, 0)))], [], h1) _
    refine jt_go jm_m170 67 3 (f' := (179, [(1, .inl (hv s e d (p))), (0, .inr (.inr (4, 0, 0)))], [.inl (nI 2), .inl (nI 0), .inr (.inr (4, 0, 0))], h1)) (P := True) rfl trivial ?_
    refine jt_call jm_m170 70 (mi' := 169) (as := [.inr (.inr (4, 0, 0)), .inl (nI 0), .inl (nI 2)]) (rest := []) (nxt := 182) rfl rfl jm_m169 rfl rfl (tb_rn Kh1 Y B hd qa q3 (by omega) (by decide) (by decide) Jh1) ?_
    rintro u h9 ⟨rfl, Gh9, P1, P2⟩
    show jt_T 170 (182, [(1, .inl (hv s e d (p))), (0, .inr (.inr (4, 0, 0)))], [.inl (jm_b (dgs s e d (p + 1) 2))], h9) _
    have Fh9 := jp_tr Fh1 Gh9
    have Kh9 := jl_mvp K Fh9
    by_cases za6 : dgs s e d (p + 1) 2
    · obtain ⟨Jh9, Nh9⟩ := P1 za6
      rw [Nh1] at Nh9
      have A3 : ∀ j, 1 ≤ j → j < 3 → dgt s e d (p + j) := rs_ext A1 za6
      refine jt_ti (show jm_b (dgs s e d (p + 1) 2) = nI 1 from jm_b_pos za6) ?_
      clear P1 P2
      show jt_T 170 (182, [(1, .inl (hv s e d (p))), (0, .inr (.inr (4, 0, 0)))], [.inl (nI 1)], h9) _
      refine jt_go jm_m170 71 2 (f' := (198, [(2, .inl (nI 1)), (1, .inl (hv s e d (p))), (0, .inr (.inr (4, 0, 0)))], [], h9)) (P := True) rfl trivial ?_
      refine jt_go jm_m170 81 1 (f' := (199, [(2, .inl (nI 1)), (1, .inl (hv s e d (p))), (0, .inr (.inr (4, 0, 0)))], [.inl (nI 1)], h9)) (P := True) rfl trivial ?_
      refine jt_nifeq jm_m170 82 (by omega) (tgt := 211) (nxt := 202) rfl rfl rfl (fun c199 => ?_) (fun c199 => ?_)
      · exact absurd c199 (by decide)
      · refine jt_go jm_m170 83 1 (f' := (203, [(2, .inl (nI 1)), (1, .inl (hv s e d (p))), (0, .inr (.inr (4, 0, 0)))], [.inr (.inr (4, 0, 0))], h9)) (P := True) rfl trivial ?_
        refine jt_callp (w := .inl (hv s e d (p + 3))) jm_m170 84 (mi' := 168) (as := [.inr (.inr (4, 0, 0))]) (rest := []) (nxt := 206) rfl rfl jm_m168 rfl rfl (tb_here Kh9 Y B hd qa q3 (by omega) Jh9) ?_
        refine jt_go jm_m170 85 1 (f' := (208, [(2, .inl (nI 1)), (1, .inl (hv s e d (p))), (0, .inr (.inr (4, 0, 0)))], [.inl (nI 59), .inl (hv s e d (p + 3))], h9)) (P := True) rfl trivial ?_
        refine jt_iceq jm_m170 86 (tgt := 213) (nxt := 211) rfl rfl rfl (fun c208 => ?_) (fun c208 => ?_)
        · refine jt_go jm_m170 89 3 (f' := (218, [(2, .inl (nI 1)), (1, .inl (hv s e d (p))), (0, .inr (.inr (4, 0, 0)))], [.inl (h9 (4, 0, 0) 5), .inr (.inr (4, 0, 0))], h9)) (P := True) rfl trivial ?_
          refine jt_ti (show (h9 (4, 0, 0) 5) = nI (p + 3) from Jh9.1) ?_
          refine jt_go jm_m170 92 2 (f' := (220, [(2, .inl (nI 1)), (1, .inl (hv s e d (p))), (0, .inr (.inr (4, 0, 0)))], [.inl ((nI (p + 3)) + (nI 1)), .inr (.inr (4, 0, 0))], h9)) (P := True) rfl trivial ?_
          refine jt_ti (show ((nI (p + 3)) + (nI 1)) = nI (p + 3 + 1) from nI_add _ _) ?_
          refine jt_goM jm_m170 94 1 (pc' := 223) (L' := [(2, .inl (nI 1)), (1, .inl (hv s e d (p))), (0, .inr (.inr (4, 0, 0)))]) (st' := []) (m' := jm_set h9 (4, 0, 0) (upd (h9 (4, 0, 0)) 5 (nI (p + 3 + 1)))) (P := True) rfl trivial (fun h10 eh10 => ?_)
          have Fh10 : jp_fr h h10 := by rw [eh10]; exact jp_p Fh9
          have Jh10 : jp_st h10 s d (p + 3 + 1) := by rw [eh10]; exact jp_sp Jh9
          have Kh10 := jl_mvp K Fh10
          have Nh10 : h10 (4, 0, 1) = upd (h (4, 0, 1)) 0 (nI (sp_num s e d (p + 1) 2)) := by rw [eh10, jm_set_ne (by decide)]; exact Nh9
          refine jt_go jm_m170 95 1 (f' := (224, [(2, .inl (nI 1)), (1, .inl (hv s e d (p))), (0, .inr (.inr (4, 0, 0)))], [.inl (nI 1)], h10)) (P := True) rfl trivial ?_
          refine jt_zret jm_m170 96 rfl (Or.inr rfl) ?_
          have hL : dg (cc s e d p) = 2 := by rw [(hv_eq Y B hd qa q3 (by decide) (by decide)).mp d2]; rfl
          have hc : cc s e d p = 104 := (hv_eq Y B hd qa q3 (by decide) (by decide)).mp d2
          exact rs_ok (b := 3) (by omega) (by omega) A3 ((hv_eq Y B hd qa q3 (by decide) (by decide)).mp c208) Fh10 Jh10 ⟨fun z => absurd z (by omega), fun z => absurd z (by omega), fun z => absurd z (by omega), fun z => absurd z (by omega), fun _ => by rw [Nh10]; first | exact jx_eq _ _ _ | exact (jx_ne (by decide)).trans (jx_eq _ _ _) | exact (jx_ne (by decide)).trans ((jx_ne (by decide)).trans (jx_eq _ _ _))⟩
        · refine jt_go jm_m170 87 1 (f' := (212, [(2, .inl (nI 1)), (1, .inl (hv s e d (p))), (0, .inr (.inr (4, 0, 0)))], [.inl (nI 0)], h9)) (P := True) rfl trivial ?_
          refine jt_zret jm_m170 88 rfl (Or.inl rfl) ?_
          have hL : dg (cc s e d p) = 2 := by rw [(hv_eq Y B hd qa q3 (by decide) (by decide)).mp d2]; rfl
          exact rs_semi (b := 3) (by omega) (by omega) A3 (fun z => c208 ((hv_eq Y B hd qa q3 (by decide) (by decide)).mpr z)) Fh9 Jh9
    · obtain ⟨i0, hi0, Z0, nd0, Jh9⟩ := P2 za6
      refine jt_ti (show jm_b (dgs s e d (p + 1) 2) = nI 0 from jm_b_neg za6) ?_
      show jt_T 170 (182, [(1, .inl (hv s e d (p))), (0, .inr (.inr (4, 0, 0)))], [.inl (nI 0)], h9) _
      refine jt_go jm_m170 71 2 (f' := (198, [(2, .inl (nI 0)), (1, .inl (hv s e d (p))), (0, .inr (.inr (4, 0, 0)))], [], h9)) (P := True) rfl trivial ?_
      refine jt_go jm_m170 81 1 (f' := (199, [(2, .inl (nI 0)), (1, .inl (hv s e d (p))), (0, .inr (.inr (4, 0, 0)))], [.inl (nI 0)], h9)) (P := True) rfl trivial ?_
      refine jt_nifeq jm_m170 82 (by omega) (tgt := 211) (nxt := 202) rfl rfl rfl (fun c199 => ?_) (fun c199 => ?_)
      · refine jt_go jm_m170 87 1 (f' := (212, [(2, .inl (nI 0)), (1, .inl (hv s e d (p))), (0, .inr (.inr (4, 0, 0)))], [.inl (nI 0)], h9)) (P := True) rfl trivial ?_
        refine jt_zret jm_m170 88 rfl (Or.inl rfl) ?_
        have hL : dg (cc s e d p) = 2 := by rw [(hv_eq Y B hd qa q3 (by decide) (by decide)).mp d2]; rfl
        exact rs_num (b := 1) (m := 2) (by omega) (by omega) (by omega) A1 hi0 Z0 nd0 Fh9 Jh9
      · exact absurd c199 (by decide)
  · have d3 : hv s e d (p) = nI 109 := d3
    show jt_T 170 (112, [(1, .inl (hv s e d (p))), (0, .inr (.inr (4, 0, 0)))], [], h1) _
    refine jt_go jm_m170 31 3 (f' := (115, [(1, .inl (hv s e d (p))), (0, .inr (.inr (4, 0, 0)))], [.inl (nI 1), .inl (nI 0), .inr (.inr (4, 0, 0))], h1)) (P := True) rfl trivial ?_
    refine jt_call jm_m170 34 (mi' := 169) (as := [.inr (.inr (4, 0, 0)), .inl (nI 0), .inl (nI 1)]) (rest := []) (nxt := 118) rfl rfl jm_m169 rfl rfl (tb_rn Kh1 Y B hd qa q3 (by omega) (by decide) (by decide) Jh1) ?_
    rintro u h11 ⟨rfl, Gh11, P1, P2⟩
    show jt_T 170 (118, [(1, .inl (hv s e d (p))), (0, .inr (.inr (4, 0, 0)))], [.inl (jm_b (dgs s e d (p + 1) 1))], h11) _
    have Fh11 := jp_tr Fh1 Gh11
    have Kh11 := jl_mvp K Fh11
    by_cases za7 : dgs s e d (p + 1) 1
    · obtain ⟨Jh11, Nh11⟩ := P1 za7
      rw [Nh1] at Nh11
      have A2 : ∀ j, 1 ≤ j → j < 2 → dgt s e d (p + j) := rs_ext A1 za7
      refine jt_ti (show jm_b (dgs s e d (p + 1) 1) = nI 1 from jm_b_pos za7) ?_
      clear P1 P2
      show jt_T 170 (118, [(1, .inl (hv s e d (p))), (0, .inr (.inr (4, 0, 0)))], [.inl (nI 1)], h11) _
      refine jt_go jm_m170 35 2 (f' := (198, [(2, .inl (nI 1)), (1, .inl (hv s e d (p))), (0, .inr (.inr (4, 0, 0)))], [], h11)) (P := True) rfl trivial ?_
      refine jt_go jm_m170 81 1 (f' := (199, [(2, .inl (nI 1)), (1, .inl (hv s e d (p))), (0, .inr (.inr (4, 0, 0)))], [.inl (nI 1)], h11)) (P := True) rfl trivial ?_
      refine jt_nifeq jm_m170 82 (by omega) (tgt := 211) (nxt := 202) rfl rfl rfl (fun c199 => ?_) (fun c199 => ?_)
      · exact absurd c199 (by decide)
      · refine jt_go jm_m170 83 1 (f' := (203, [(2, .inl (nI 1)), (1, .inl (hv s e d (p))), (0, .inr (.inr (4, 0, 0)))], [.inr (.inr (4, 0, 0))], h11)) (P := True) rfl trivial ?_
        refine jt_callp (w := .inl (hv s e d (p + 2))) jm_m170 84 (mi' := 168) (as := [.inr (.inr (4, 0, 0))]) (rest := []) (nxt := 206) rfl rfl jm_m168 rfl rfl (tb_here Kh11 Y B hd qa q3 (by omega) Jh11) ?_
        refine jt_go jm_m170 85 1 (f' := (208, [(2, .inl (nI 1)), (1, .inl (hv s e d (p))), (0, .inr (.inr (4, 0, 0)))], [.inl (nI 59), .inl (hv s e d (p + 2))], h11)) (P := True) rfl trivial ?_
        refine jt_iceq jm_m170 86 (tgt := 213) (nxt := 211) rfl rfl rfl (fun c208 => ?_) (fun c208 => ?_)
        · refine jt_go jm_m170 89 3 (f' := (218, [(2, .inl (nI 1)), (1, .inl (hv s e d (p))), (0, .inr (.inr (4, 0, 0)))], [.inl (h11 (4, 0, 0) 5), .inr (.inr (4, 0, 0))], h11)) (P := True) rfl trivial ?_
          refine jt_ti (show (h11 (4, 0, 0) 5) = nI (p + 2) from Jh11.1) ?_
          refine jt_go jm_m170 92 2 (f' := (220, [(2, .inl (nI 1)), (1, .inl (hv s e d (p))), (0, .inr (.inr (4, 0, 0)))], [.inl ((nI (p + 2)) + (nI 1)), .inr (.inr (4, 0, 0))], h11)) (P := True) rfl trivial ?_
          refine jt_ti (show ((nI (p + 2)) + (nI 1)) = nI (p + 2 + 1) from nI_add _ _) ?_
          refine jt_goM jm_m170 94 1 (pc' := 223) (L' := [(2, .inl (nI 1)), (1, .inl (hv s e d (p))), (0, .inr (.inr (4, 0, 0)))]) (st' := []) (m' := jm_set h11 (4, 0, 0) (upd (h11 (4, 0, 0)) 5 (nI (p + 2 + 1)))) (P := True) rfl trivial (fun h12 eh12 => ?_)
          have Fh12 : jp_fr h h12 := by rw [eh12]; exact jp_p Fh11
          have Jh12 : jp_st h12 s d (p + 2 + 1) := by rw [eh12]; exact jp_sp Jh11
          have Kh12 := jl_mvp K Fh12
          have Nh12 : h12 (4, 0, 1) = upd (h (4, 0, 1)) 0 (nI (sp_num s e d (p + 1) 1)) := by rw [eh12, jm_set_ne (by decide)]; exact Nh11
          refine jt_go jm_m170 95 1 (f' := (224, [(2, .inl (nI 1)), (1, .inl (hv s e d (p))), (0, .inr (.inr (4, 0, 0)))], [.inl (nI 1)], h12)) (P := True) rfl trivial ?_
          refine jt_zret jm_m170 96 rfl (Or.inr rfl) ?_
          have hL : dg (cc s e d p) = 1 := by rw [(hv_eq Y B hd qa q3 (by decide) (by decide)).mp d3]; rfl
          have hc : cc s e d p = 109 := (hv_eq Y B hd qa q3 (by decide) (by decide)).mp d3
          exact rs_ok (b := 2) (by omega) (by omega) A2 ((hv_eq Y B hd qa q3 (by decide) (by decide)).mp c208) Fh12 Jh12 ⟨fun z => absurd z (by omega), fun _ => by rw [Nh12]; first | exact jx_eq _ _ _ | exact (jx_ne (by decide)).trans (jx_eq _ _ _) | exact (jx_ne (by decide)).trans ((jx_ne (by decide)).trans (jx_eq _ _ _)), fun z => absurd z (by omega), fun z => absurd z (by omega), fun z => absurd z (by omega)⟩
        · refine jt_go jm_m170 87 1 (f' := (212, [(2, .inl (nI 1)), (1, .inl (hv s e d (p))), (0, .inr (.inr (4, 0, 0)))], [.inl (nI 0)], h11)) (P := True) rfl trivial ?_
          refine jt_zret jm_m170 88 rfl (Or.inl rfl) ?_
          have hL : dg (cc s e d p) = 1 := by rw [(hv_eq Y B hd qa q3 (by decide) (by decide)).mp d3]; rfl
          exact rs_semi (b := 2) (by omega) (by omega) A2 (fun z => c208 ((hv_eq Y B hd qa q3 (by decide) (by decide)).mpr z)) Fh11 Jh11
    · obtain ⟨i0, hi0, Z0, nd0, Jh11⟩ := P2 za7
      refine jt_ti (show jm_b (dgs s e d (p + 1) 1) = nI 0 from jm_b_neg za7) ?_
      show jt_T 170 (118, [(1, .inl (hv s e d (p))), (0, .inr (.inr (4, 0, 0)))], [.inl (nI 0)], h11) _
      refine jt_go jm_m170 35 2 (f' := (198, [(2, .inl (nI 0)), (1, .inl (hv s e d (p))), (0, .inr (.inr (4, 0, 0)))], [], h11)) (P := True) rfl trivial ?_
      refine jt_go jm_m170 81 1 (f' := (199, [(2, .inl (nI 0)), (1, .inl (hv s e d (p))), (0, .inr (.inr (4, 0, 0)))], [.inl (nI 0)], h11)) (P := True) rfl trivial ?_
      refine jt_nifeq jm_m170 82 (by omega) (tgt := 211) (nxt := 202) rfl rfl rfl (fun c199 => ?_) (fun c199 => ?_)
      · refine jt_go jm_m170 87 1 (f' := (212, [(2, .inl (nI 0)), (1, .inl (hv s e d (p))), (0, .inr (.inr (4, 0, 0)))], [.inl (nI 0)], h11)) (P := True) rfl trivial ?_
        refine jt_zret jm_m170 88 rfl (Or.inl rfl) ?_
        have hL : dg (cc s e d p) = 1 := by rw [(hv_eq Y B hd qa q3 (by decide) (by decide)).mp d3]; rfl
        exact rs_num (b := 1) (m := 1) (by omega) (by omega) (by omega) A1 hi0 Z0 nd0 Fh11 Jh11
      · exact absurd c199 (by decide)
  · have d4 : hv s e d (p) = nI 119 := d4
    show jt_T 170 (149, [(1, .inl (hv s e d (p))), (0, .inr (.inr (4, 0, 0)))], [], h1) _
    refine jt_go jm_m170 52 3 (f' := (152, [(1, .inl (hv s e d (p))), (0, .inr (.inr (4, 0, 0)))], [.inl (nI 1), .inl (nI 0), .inr (.inr (4, 0, 0))], h1)) (P := True) rfl trivial ?_
    refine jt_call jm_m170 55 (mi' := 169) (as := [.inr (.inr (4, 0, 0)), .inl (nI 0), .inl (nI 1)]) (rest := []) (nxt := 155) rfl rfl jm_m169 rfl rfl (tb_rn Kh1 Y B hd qa q3 (by omega) (by decide) (by decide) Jh1) ?_
    rintro u h13 ⟨rfl, Gh13, P1, P2⟩
    show jt_T 170 (155, [(1, .inl (hv s e d (p))), (0, .inr (.inr (4, 0, 0)))], [.inl (jm_b (dgs s e d (p + 1) 1))], h13) _
    have Fh13 := jp_tr Fh1 Gh13
    have Kh13 := jl_mvp K Fh13
    by_cases za8 : dgs s e d (p + 1) 1
    · obtain ⟨Jh13, Nh13⟩ := P1 za8
      rw [Nh1] at Nh13
      have A2 : ∀ j, 1 ≤ j → j < 2 → dgt s e d (p + j) := rs_ext A1 za8
      refine jt_ti (show jm_b (dgs s e d (p + 1) 1) = nI 1 from jm_b_pos za8) ?_
      clear P1 P2
      show jt_T 170 (155, [(1, .inl (hv s e d (p))), (0, .inr (.inr (4, 0, 0)))], [.inl (nI 1)], h13) _
      refine jt_nifeq jm_m170 56 (by omega) (tgt := 171) (nxt := 158) rfl rfl rfl (fun c155 => ?_) (fun c155 => ?_)
      · exact absurd c155 (by decide)
      · refine jt_go jm_m170 57 3 (f' := (161, [(1, .inl (hv s e d (p))), (0, .inr (.inr (4, 0, 0)))], [.inl (nI 1), .inl (nI 1), .inr (.inr (4, 0, 0))], h13)) (P := True) rfl trivial ?_
        refine jt_call jm_m170 60 (mi' := 169) (as := [.inr (.inr (4, 0, 0)), .inl (nI 1), .inl (nI 1)]) (rest := []) (nxt := 164) rfl rfl jm_m169 rfl rfl (tb_rn Kh13 Y B hd qa q3 (by omega) (by decide) (by decide) Jh13) ?_
        rintro u h14 ⟨rfl, Gh14, P1, P2⟩
        show jt_T 170 (164, [(1, .inl (hv s e d (p))), (0, .inr (.inr (4, 0, 0)))], [.inl (jm_b (dgs s e d (p + 2) 1))], h14) _
        have Fh14 := jp_tr Fh13 Gh14
        have Kh14 := jl_mvp K Fh14
        by_cases za9 : dgs s e d (p + 2) 1
        · obtain ⟨Jh14, Nh14⟩ := P1 za9
          rw [Nh13] at Nh14
          have A3 : ∀ j, 1 ≤ j → j < 3 → dgt s e d (p + j) := rs_ext A2 za9
          refine jt_ti (show jm_b (dgs s e d (p + 2) 1) = nI 1 from jm_b_pos za9) ?_
          clear P1 P2
          show jt_T 170 (164, [(1, .inl (hv s e d (p))), (0, .inr (.inr (4, 0, 0)))], [.inl (nI 1)], h14) _
          refine jt_nifeq jm_m170 61 (by omega) (tgt := 171) (nxt := 167) rfl rfl rfl (fun c164 => ?_) (fun c164 => ?_)
          · exact absurd c164 (by decide)
          · refine jt_go jm_m170 62 2 (f' := (172, [(1, .inl (hv s e d (p))), (0, .inr (.inr (4, 0, 0)))], [.inl (nI 1)], h14)) (P := True) rfl trivial ?_
            refine jt_go jm_m170 65 2 (f' := (198, [(2, .inl (nI 1)), (1, .inl (hv s e d (p))), (0, .inr (.inr (4, 0, 0)))], [], h14)) (P := True) rfl trivial ?_
            refine jt_go jm_m170 81 1 (f' := (199, [(2, .inl (nI 1)), (1, .inl (hv s e d (p))), (0, .inr (.inr (4, 0, 0)))], [.inl (nI 1)], h14)) (P := True) rfl trivial ?_
            refine jt_nifeq jm_m170 82 (by omega) (tgt := 211) (nxt := 202) rfl rfl rfl (fun c199 => ?_) (fun c199 => ?_)
            · exact absurd c199 (by decide)
            · refine jt_go jm_m170 83 1 (f' := (203, [(2, .inl (nI 1)), (1, .inl (hv s e d (p))), (0, .inr (.inr (4, 0, 0)))], [.inr (.inr (4, 0, 0))], h14)) (P := True) rfl trivial ?_
              refine jt_callp (w := .inl (hv s e d (p + 3))) jm_m170 84 (mi' := 168) (as := [.inr (.inr (4, 0, 0))]) (rest := []) (nxt := 206) rfl rfl jm_m168 rfl rfl (tb_here Kh14 Y B hd qa q3 (by omega) Jh14) ?_
              refine jt_go jm_m170 85 1 (f' := (208, [(2, .inl (nI 1)), (1, .inl (hv s e d (p))), (0, .inr (.inr (4, 0, 0)))], [.inl (nI 59), .inl (hv s e d (p + 3))], h14)) (P := True) rfl trivial ?_
              refine jt_iceq jm_m170 86 (tgt := 213) (nxt := 211) rfl rfl rfl (fun c208 => ?_) (fun c208 => ?_)
              · refine jt_go jm_m170 89 3 (f' := (218, [(2, .inl (nI 1)), (1, .inl (hv s e d (p))), (0, .inr (.inr (4, 0, 0)))], [.inl (h14 (4, 0, 0) 5), .inr (.inr (4, 0, 0))], h14)) (P := True) rfl trivial ?_
                refine jt_ti (show (h14 (4, 0, 0) 5) = nI (p + 3) from Jh14.1) ?_
                refine jt_go jm_m170 92 2 (f' := (220, [(2, .inl (nI 1)), (1, .inl (hv s e d (p))), (0, .inr (.inr (4, 0, 0)))], [.inl ((nI (p + 3)) + (nI 1)), .inr (.inr (4, 0, 0))], h14)) (P := True) rfl trivial ?_
                refine jt_ti (show ((nI (p + 3)) + (nI 1)) = nI (p + 3 + 1) from nI_add _ _) ?_
                refine jt_goM jm_m170 94 1 (pc' := 223) (L' := [(2, .inl (nI 1)), (1, .inl (hv s e d (p))), (0, .inr (.inr (4, 0, 0)))]) (st' := []) (m' := jm_set h14 (4, 0, 0) (upd (h14 (4, 0, 0)) 5 (nI (p + 3 + 1)))) (P := True) rfl trivial (fun h15 eh15 => ?_)
                have Fh15 : jp_fr h h15 := by rw [eh15]; exact jp_p Fh14
                have Jh15 : jp_st h15 s d (p + 3 + 1) := by rw [eh15]; exact jp_sp Jh14
                have Kh15 := jl_mvp K Fh15
                have Nh15 : h15 (4, 0, 1) = upd (upd (h (4, 0, 1)) 0 (nI (sp_num s e d (p + 1) 1))) 1 (nI (sp_num s e d (p + 2) 1)) := by rw [eh15, jm_set_ne (by decide)]; exact Nh14
                refine jt_go jm_m170 95 1 (f' := (224, [(2, .inl (nI 1)), (1, .inl (hv s e d (p))), (0, .inr (.inr (4, 0, 0)))], [.inl (nI 1)], h15)) (P := True) rfl trivial ?_
                refine jt_zret jm_m170 96 rfl (Or.inr rfl) ?_
                have hL : dg (cc s e d p) = 2 := by rw [(hv_eq Y B hd qa q3 (by decide) (by decide)).mp d4]; rfl
                have hc : cc s e d p = 119 := (hv_eq Y B hd qa q3 (by decide) (by decide)).mp d4
                exact rs_ok (b := 3) (by omega) (by omega) A3 ((hv_eq Y B hd qa q3 (by decide) (by decide)).mp c208) Fh15 Jh15 ⟨fun z => absurd z (by omega), fun z => absurd z (by omega), fun z => absurd z (by omega), fun _ => ⟨by rw [Nh15]; first | exact jx_eq _ _ _ | exact (jx_ne (by decide)).trans (jx_eq _ _ _) | exact (jx_ne (by decide)).trans ((jx_ne (by decide)).trans (jx_eq _ _ _)), by rw [Nh15]; first | exact jx_eq _ _ _ | exact (jx_ne (by decide)).trans (jx_eq _ _ _) | exact (jx_ne (by decide)).trans ((jx_ne (by decide)).trans (jx_eq _ _ _))⟩, fun z => absurd z (by omega)⟩
              · refine jt_go jm_m170 87 1 (f' := (212, [(2, .inl (nI 1)), (1, .inl (hv s e d (p))), (0, .inr (.inr (4, 0, 0)))], [.inl (nI 0)], h14)) (P := True) rfl trivial ?_
                refine jt_zret jm_m170 88 rfl (Or.inl rfl) ?_
                have hL : dg (cc s e d p) = 2 := by rw [(hv_eq Y B hd qa q3 (by decide) (by decide)).mp d4]; rfl
                exact rs_semi (b := 3) (by omega) (by omega) A3 (fun z => c208 ((hv_eq Y B hd qa q3 (by decide) (by decide)).mpr z)) Fh14 Jh14
        · obtain ⟨i0, hi0, Z0, nd0, Jh14⟩ := P2 za9
          refine jt_ti (show jm_b (dgs s e d (p + 2) 1) = nI 0 from jm_b_neg za9) ?_
          show jt_T 170 (164, [(1, .inl (hv s e d (p))), (0, .inr (.inr (4, 0, 0)))], [.inl (nI 0)], h14) _
          refine jt_nifeq jm_m170 61 (by omega) (tgt := 171) (nxt := 167) rfl rfl rfl (fun c164 => ?_) (fun c164 => ?_)
          · refine jt_go jm_m170 64 3 (f' := (198, [(2, .inl (nI 0)), (1, .inl (hv s e d (p))), (0, .inr (.inr (4, 0, 0)))], [], h14)) (P := True) rfl trivial ?_
            refine jt_go jm_m170 81 1 (f' := (199, [(2, .inl (nI 0)), (1, .inl (hv s e d (p))), (0, .inr (.inr (4, 0, 0)))], [.inl (nI 0)], h14)) (P := True) rfl trivial ?_
            refine jt_nifeq jm_m170 82 (by omega) (tgt := 211) (nxt := 202) rfl rfl rfl (fun c199 => ?_) (fun c199 => ?_)
            · refine jt_go jm_m170 87 1 (f' := (212, [(2, .inl (nI 0)), (1, .inl (hv s e d (p))), (0, .inr (.inr (4, 0, 0)))], [.inl (nI 0)], h14)) (P := True) rfl trivial ?_
              refine jt_zret jm_m170 88 rfl (Or.inl rfl) ?_
              have hL : dg (cc s e d p) = 2 := by rw [(hv_eq Y B hd qa q3 (by decide) (by decide)).mp d4]; rfl
              exact rs_num (b := 2) (m := 1) (by omega) (by omega) (by omega) A2 hi0 Z0 nd0 Fh14 Jh14
            · exact absurd c199 (by decide)
          · exact absurd c164 (by decide)
    · obtain ⟨i0, hi0, Z0, nd0, Jh13⟩ := P2 za8
      refine jt_ti (show jm_b (dgs s e d (p + 1) 1) = nI 0 from jm_b_neg za8) ?_
      show jt_T 170 (155, [(1, .inl (hv s e d (p))), (0, .inr (.inr (4, 0, 0)))], [.inl (nI 0)], h13) _
      refine jt_nifeq jm_m170 56 (by omega) (tgt := 171) (nxt := 158) rfl rfl rfl (fun c155 => ?_) (fun c155 => ?_)
      · refine jt_go jm_m170 64 3 (f' := (198, [(2, .inl (nI 0)), (1, .inl (hv s e d (p))), (0, .inr (.inr (4, 0, 0)))], [], h13)) (P := True) rfl trivial ?_
        refine jt_go jm_m170 81 1 (f' := (199, [(2, .inl (nI 0)), (1, .inl (hv s e d (p))), (0, .inr (.inr (4, 0, 0)))], [.inl (nI 0)], h13)) (P := True) rfl trivial ?_
        refine jt_nifeq jm_m170 82 (by omega) (tgt := 211) (nxt := 202) rfl rfl rfl (fun c199 => ?_) (fun c199 => ?_)
        · refine jt_go jm_m170 87 1 (f' := (212, [(2, .inl (nI 0)), (1, .inl (hv s e d (p))), (0, .inr (.inr (4, 0, 0)))], [.inl (nI 0)], h13)) (P := True) rfl trivial ?_
          refine jt_zret jm_m170 88 rfl (Or.inl rfl) ?_
          have hL : dg (cc s e d p) = 2 := by rw [(hv_eq Y B hd qa q3 (by decide) (by decide)).mp d4]; rfl
          exact rs_num (b := 1) (m := 1) (by omega) (by omega) (by omega) A1 hi0 Z0 nd0 Fh13 Jh13
        · exact absurd c199 (by decide)
      · exact absurd c155 (by decide)
  · have d5 : hv s e d (p) = nI 120 := d5
    show jt_T 170 (122, [(1, .inl (hv s e d (p))), (0, .inr (.inr (4, 0, 0)))], [], h1) _
    refine jt_go jm_m170 37 3 (f' := (125, [(1, .inl (hv s e d (p))), (0, .inr (.inr (4, 0, 0)))], [.inl (nI 2), .inl (nI 0), .inr (.inr (4, 0, 0))], h1)) (P := True) rfl trivial ?_
    refine jt_call jm_m170 40 (mi' := 169) (as := [.inr (.inr (4, 0, 0)), .inl (nI 0), .inl (nI 2)]) (rest := []) (nxt := 128) rfl rfl jm_m169 rfl rfl (tb_rn Kh1 Y B hd qa q3 (by omega) (by decide) (by decide) Jh1) ?_
    rintro u h16 ⟨rfl, Gh16, P1, P2⟩
    show jt_T 170 (128, [(1, .inl (hv s e d (p))), (0, .inr (.inr (4, 0, 0)))], [.inl (jm_b (dgs s e d (p + 1) 2))], h16) _
    have Fh16 := jp_tr Fh1 Gh16
    have Kh16 := jl_mvp K Fh16
    by_cases za10 : dgs s e d (p + 1) 2
    · obtain ⟨Jh16, Nh16⟩ := P1 za10
      rw [Nh1] at Nh16
      have A3 : ∀ j, 1 ≤ j → j < 3 → dgt s e d (p + j) := rs_ext A1 za10
      refine jt_ti (show jm_b (dgs s e d (p + 1) 2) = nI 1 from jm_b_pos za10) ?_
      clear P1 P2
      show jt_T 170 (128, [(1, .inl (hv s e d (p))), (0, .inr (.inr (4, 0, 0)))], [.inl (nI 1)], h16) _
      refine jt_nifeq jm_m170 41 (by omega) (tgt := 144) (nxt := 131) rfl rfl rfl (fun c128 => ?_) (fun c128 => ?_)
      · exact absurd c128 (by decide)
      · refine jt_go jm_m170 42 3 (f' := (134, [(1, .inl (hv s e d (p))), (0, .inr (.inr (4, 0, 0)))], [.inl (nI 1), .inl (nI 1), .inr (.inr (4, 0, 0))], h16)) (P := True) rfl trivial ?_
        refine jt_call jm_m170 45 (mi' := 169) (as := [.inr (.inr (4, 0, 0)), .inl (nI 1), .inl (nI 1)]) (rest := []) (nxt := 137) rfl rfl jm_m169 rfl rfl (tb_rn Kh16 Y B hd qa q3 (by omega) (by decide) (by decide) Jh16) ?_
        rintro u h17 ⟨rfl, Gh17, P1, P2⟩
        show jt_T 170 (137, [(1, .inl (hv s e d (p))), (0, .inr (.inr (4, 0, 0)))], [.inl (jm_b (dgs s e d (p + 3) 1))], h17) _
        have Fh17 := jp_tr Fh16 Gh17
        have Kh17 := jl_mvp K Fh17
        by_cases za11 : dgs s e d (p + 3) 1
        · obtain ⟨Jh17, Nh17⟩ := P1 za11
          rw [Nh16] at Nh17
          have A4 : ∀ j, 1 ≤ j → j < 4 → dgt s e d (p + j) := rs_ext A3 za11
          refine jt_ti (show jm_b (dgs s e d (p + 3) 1) = nI 1 from jm_b_pos za11) ?_
          clear P1 P2
          show jt_T 170 (137, [(1, .inl (hv s e d (p))), (0, .inr (.inr (4, 0, 0)))], [.inl (nI 1)], h17) _
          refine jt_nifeq jm_m170 46 (by omega) (tgt := 144) (nxt := 140) rfl rfl rfl (fun c137 => ?_) (fun c137 => ?_)
          · exact absurd c137 (by decide)
          · refine jt_go jm_m170 47 2 (f' := (145, [(1, .inl (hv s e d (p))), (0, .inr (.inr (4, 0, 0)))], [.inl (nI 1)], h17)) (P := True) rfl trivial ?_
            refine jt_go jm_m170 50 2 (f' := (198, [(2, .inl (nI 1)), (1, .inl (hv s e d (p))), (0, .inr (.inr (4, 0, 0)))], [], h17)) (P := True) rfl trivial ?_
            refine jt_go jm_m170 81 1 (f' := (199, [(2, .inl (nI 1)), (1, .inl (hv s e d (p))), (0, .inr (.inr (4, 0, 0)))], [.inl (nI 1)], h17)) (P := True) rfl trivial ?_
            refine jt_nifeq jm_m170 82 (by omega) (tgt := 211) (nxt := 202) rfl rfl rfl (fun c199 => ?_) (fun c199 => ?_)
            · exact absurd c199 (by decide)
            · refine jt_go jm_m170 83 1 (f' := (203, [(2, .inl (nI 1)), (1, .inl (hv s e d (p))), (0, .inr (.inr (4, 0, 0)))], [.inr (.inr (4, 0, 0))], h17)) (P := True) rfl trivial ?_
              refine jt_callp (w := .inl (hv s e d (p + 4))) jm_m170 84 (mi' := 168) (as := [.inr (.inr (4, 0, 0))]) (rest := []) (nxt := 206) rfl rfl jm_m168 rfl rfl (tb_here Kh17 Y B hd qa q3 (by omega) Jh17) ?_
              refine jt_go jm_m170 85 1 (f' := (208, [(2, .inl (nI 1)), (1, .inl (hv s e d (p))), (0, .inr (.inr (4, 0, 0)))], [.inl (nI 59), .inl (hv s e d (p + 4))], h17)) (P := True) rfl trivial ?_
              refine jt_iceq jm_m170 86 (tgt := 213) (nxt := 211) rfl rfl rfl (fun c208 => ?_) (fun c208 => ?_)
              · refine jt_go jm_m170 89 3 (f' := (218, [(2, .inl (nI 1)), (1, .inl (hv s e d (p))), (0, .inr (.inr (4, 0, 0)))], [.inl (h17 (4, 0, 0) 5), .inr (.inr (4, 0, 0))], h17)) (P := True) rfl trivial ?_
                refine jt_ti (show (h17 (4, 0, 0) 5) = nI (p + 4) from Jh17.1) ?_
                refine jt_go jm_m170 92 2 (f' := (220, [(2, .inl (nI 1)), (1, .inl (hv s e d (p))), (0, .inr (.inr (4, 0, 0)))], [.inl ((nI (p + 4)) + (nI 1)), .inr (.inr (4, 0, 0))], h17)) (P := True) rfl trivial ?_
                refine jt_ti (show ((nI (p + 4)) + (nI 1)) = nI (p + 4 + 1) from nI_add _ _) ?_
                refine jt_goM jm_m170 94 1 (pc' := 223) (L' := [(2, .inl (nI 1)), (1, .inl (hv s e d (p))), (0, .inr (.inr (4, 0, 0)))]) (st' := []) (m' := jm_set h17 (4, 0, 0) (upd (h17 (4, 0, 0)) 5 (nI (p + 4 + 1)))) (P := True) rfl trivial (fun h18 eh18 => ?_)
                have Fh18 : jp_fr h h18 := by rw [eh18]; exact jp_p Fh17
                have Jh18 : jp_st h18 s d (p + 4 + 1) := by rw [eh18]; exact jp_sp Jh17
                have Kh18 := jl_mvp K Fh18
                have Nh18 : h18 (4, 0, 1) = upd (upd (h (4, 0, 1)) 0 (nI (sp_num s e d (p + 1) 2))) 1 (nI (sp_num s e d (p + 3) 1)) := by rw [eh18, jm_set_ne (by decide)]; exact Nh17
                refine jt_go jm_m170 95 1 (f' := (224, [(2, .inl (nI 1)), (1, .inl (hv s e d (p))), (0, .inr (.inr (4, 0, 0)))], [.inl (nI 1)], h18)) (P := True) rfl trivial ?_
                refine jt_zret jm_m170 96 rfl (Or.inr rfl) ?_
                have hL : dg (cc s e d p) = 3 := by rw [(hv_eq Y B hd qa q3 (by decide) (by decide)).mp d5]; rfl
                have hc : cc s e d p = 120 := (hv_eq Y B hd qa q3 (by decide) (by decide)).mp d5
                exact rs_ok (b := 4) (by omega) (by omega) A4 ((hv_eq Y B hd qa q3 (by decide) (by decide)).mp c208) Fh18 Jh18 ⟨fun z => absurd z (by omega), fun z => absurd z (by omega), fun _ => ⟨by rw [Nh18]; first | exact jx_eq _ _ _ | exact (jx_ne (by decide)).trans (jx_eq _ _ _) | exact (jx_ne (by decide)).trans ((jx_ne (by decide)).trans (jx_eq _ _ _)), by rw [Nh18]; first | exact jx_eq _ _ _ | exact (jx_ne (by decide)).trans (jx_eq _ _ _) | exact (jx_ne (by decide)).trans ((jx_ne (by decide)).trans (jx_eq _ _ _))⟩, fun z => absurd z (by omega), fun z => absurd z (by omega)⟩
              · refine jt_go jm_m170 87 1 (f' := (212, [(2, .inl (nI 1)), (1, .inl (hv s e d (p))), (0, .inr (.inr (4, 0, 0)))], [.inl (nI 0)], h17)) (P := True) rfl trivial ?_
                refine jt_zret jm_m170 88 rfl (Or.inl rfl) ?_
                have hL : dg (cc s e d p) = 3 := by rw [(hv_eq Y B hd qa q3 (by decide) (by decide)).mp d5]; rfl
                exact rs_semi (b := 4) (by omega) (by omega) A4 (fun z => c208 ((hv_eq Y B hd qa q3 (by decide) (by decide)).mpr z)) Fh17 Jh17
        · obtain ⟨i0, hi0, Z0, nd0, Jh17⟩ := P2 za11
          refine jt_ti (show jm_b (dgs s e d (p + 3) 1) = nI 0 from jm_b_neg za11) ?_
          show jt_T 170 (137, [(1, .inl (hv s e d (p))), (0, .inr (.inr (4, 0, 0)))], [.inl (nI 0)], h17) _
          refine jt_nifeq jm_m170 46 (by omega) (tgt := 144) (nxt := 140) rfl rfl rfl (fun c137 => ?_) (fun c137 => ?_)
          · refine jt_go jm_m170 49 3 (f' := (198, [(2, .inl (nI 0)), (1, .inl (hv s e d (p))), (0, .inr (.inr (4, 0, 0)))], [], h17)) (P := True) rfl trivial ?_
            refine jt_go jm_m170 81 1 (f' := (199, [(2, .inl (nI 0)), (1, .inl (hv s e d (p))), (0, .inr (.inr (4, 0, 0)))], [.inl (nI 0)], h17)) (P := True) rfl trivial ?_
            refine jt_nifeq jm_m170 82 (by omega) (tgt := 211) (nxt := 202) rfl rfl rfl (fun c199 => ?_) (fun c199 => ?_)
            · refine jt_go jm_m170 87 1 (f' := (212, [(2, .inl (nI 0)), (1, .inl (hv s e d (p))), (0, .inr (.inr (4, 0, 0)))], [.inl (nI 0)], h17)) (P := True) rfl trivial ?_
              refine jt_zret jm_m170 88 rfl (Or.inl rfl) ?_
              have hL : dg (cc s e d p) = 3 := by rw [(hv_eq Y B hd qa q3 (by decide) (by decide)).mp d5]; rfl
              exact rs_num (b := 3) (m := 1) (by omega) (by omega) (by omega) A3 hi0 Z0 nd0 Fh17 Jh17
            · exact absurd c199 (by decide)
          · exact absurd c137 (by decide)
    · obtain ⟨i0, hi0, Z0, nd0, Jh16⟩ := P2 za10
      refine jt_ti (show jm_b (dgs s e d (p + 1) 2) = nI 0 from jm_b_neg za10) ?_
      show jt_T 170 (128, [(1, .inl (hv s e d (p))), (0, .inr (.inr (4, 0, 0)))], [.inl (nI 0)], h16) _
      refine jt_nifeq jm_m170 41 (by omega) (tgt := 144) (nxt := 131) rfl rfl rfl (fun c128 => ?_) (fun c128 => ?_)
      · refine jt_go jm_m170 49 3 (f' := (198, [(2, .inl (nI 0)), (1, .inl (hv s e d (p))), (0, .inr (.inr (4, 0, 0)))], [], h16)) (P := True) rfl trivial ?_
        refine jt_go jm_m170 81 1 (f' := (199, [(2, .inl (nI 0)), (1, .inl (hv s e d (p))), (0, .inr (.inr (4, 0, 0)))], [.inl (nI 0)], h16)) (P := True) rfl trivial ?_
        refine jt_nifeq jm_m170 82 (by omega) (tgt := 211) (nxt := 202) rfl rfl rfl (fun c199 => ?_) (fun c199 => ?_)
        · refine jt_go jm_m170 87 1 (f' := (212, [(2, .inl (nI 0)), (1, .inl (hv s e d (p))), (0, .inr (.inr (4, 0, 0)))], [.inl (nI 0)], h16)) (P := True) rfl trivial ?_
          refine jt_zret jm_m170 88 rfl (Or.inl rfl) ?_
          have hL : dg (cc s e d p) = 3 := by rw [(hv_eq Y B hd qa q3 (by decide) (by decide)).mp d5]; rfl
          exact rs_num (b := 1) (m := 2) (by omega) (by omega) (by omega) A1 hi0 Z0 nd0 Fh16 Jh16
        · exact absurd c199 (by decide)
      · exact absurd c128 (by decide)
  · show jt_T 170 (186, [(1, .inl (hv s e d (p))), (0, .inr (.inr (4, 0, 0)))], [], h1) _
    refine jt_go jm_m170 73 3 (f' := (191, [(1, .inl (hv s e d (p))), (0, .inr (.inr (4, 0, 0)))], [.inl (h1 (4, 0, 0) 5), .inr (.inr (4, 0, 0))], h1)) (P := True) rfl trivial ?_
    refine jt_ti (show (h1 (4, 0, 0) 5) = nI (p + 1) from Jh1.1) ?_
    refine jt_go jm_m170 76 2 (f' := (193, [(1, .inl (hv s e d (p))), (0, .inr (.inr (4, 0, 0)))], [.inl ((nI (p + 1)) - (nI 1)), .inr (.inr (4, 0, 0))], h1)) (P := True) rfl trivial ?_
    refine jt_ti (show ((nI (p + 1)) - (nI 1)) = nI p from nI_subN (by omega)) ?_
    refine jt_goM jm_m170 78 1 (pc' := 196) (L' := [(1, .inl (hv s e d (p))), (0, .inr (.inr (4, 0, 0)))]) (st' := []) (m' := jm_set h1 (4, 0, 0) (upd (h1 (4, 0, 0)) 5 (nI p))) (P := True) rfl trivial (fun h19 eh19 => ?_)
    have Fh19 : jp_fr h h19 := by rw [eh19]; exact jp_p Fh1
    have Jh19 : jp_st h19 s d (p) := by rw [eh19]; exact jp_sp Jh1
    have Kh19 := jl_mvp K Fh19
    have Nh19 : h19 (4, 0, 1) = h (4, 0, 1) := by rw [eh19, jm_set_ne (by decide)]; exact Nh1
    refine jt_go jm_m170 79 1 (f' := (197, [(1, .inl (hv s e d (p))), (0, .inr (.inr (4, 0, 0)))], [.inl (nI 0)], h19)) (P := True) rfl trivial ?_
    refine jt_zret jm_m170 80 rfl (Or.inl rfl) ?_
    have n0 : dg (cc s e d p) = 0 := Decidable.byContradiction (fun z => by
      rcases dg_pos z with q | q | q | q | q | q
      · exact d0 ((hv_eq Y B hd qa q3 (by decide) (by decide)).mpr q)
      · exact d1 ((hv_eq Y B hd qa q3 (by decide) (by decide)).mpr q)
      · exact d2 ((hv_eq Y B hd qa q3 (by decide) (by decide)).mpr q)
      · exact d3 ((hv_eq Y B hd qa q3 (by decide) (by decide)).mpr q)
      · exact d4 ((hv_eq Y B hd qa q3 (by decide) (by decide)).mpr q)
      · exact d5 ((hv_eq Y B hd qa q3 (by decide) (by decide)).mpr q))
    exact rs_bad (txs_letter n0) Fh19 Jh19
