/-! SHELVES: copy. -/
theorem jx_cpy2 {f g : Nat → Int32} {a b n p : Nat} : va_cpy f g a b n p = if b ≤ p ∧ p < b + n then f (a + (p - b)) else g p := by
  unfold va_cpy
  first | rfl | (split <;> split <;> first | rfl | omega | (congr 1; omega))
/-- a stretch of n from y lies in the row d -/
abbrev cp_st (s : Nat → Nat → Nat) (d : Nat) (y n : Int32) : Prop := ¬ y < 0 ∧ ¬ n < 0 ∧ ¬ nI (s d 4) - y < n
def zb_copy (s : Nat → Nat → Nat) (a b : Nat) (y v n : Int32) : Int32 := if s a 0 = 0 ∨ s b 0 = 0 then (-11) else if s a 0 = 2 ∧ s b 0 = 2 ∧ s a 3 = s b 3 then (if cp_st s a y n ∧ cp_st s b v n then n else (-13)) else (-12)
abbrev cp_sh (x z : Int32) : Prop := (nI 0 ≤ x ∧ x ≤ nI 7) ∧ (nI 0 ≤ z ∧ z ≤ nI 7)
def za_copy (s : Nat → Nat → Nat) (x y z v n : Int32) : Int32 := if cp_sh x z then zb_copy s x.toNatClampNeg z.toNatClampNeg y v n else (-1)
abbrev cp_ok (s : Nat → Nat → Nat) (a b : Nat) (y v n : Int32) : Prop := ¬ (s a 0 = 0 ∨ s b 0 = 0) ∧ (s a 0 = 2 ∧ s b 0 = 2 ∧ s a 3 = s b 3) ∧ cp_st s a y n ∧ cp_st s b v n
def ze_copy (s : Nat → Nat → Nat) (e : Nat → Nat → Int32) (x y z v n : Int32) : Nat → Nat → Int32 := if cp_sh x z ∧ cp_ok s x.toNatClampNeg z.toNatClampNeg y v n then ks_put e z.toNatClampNeg (fun p => if v.toNatClampNeg ≤ p ∧ p < v.toNatClampNeg + n.toNatClampNeg then e x.toNatClampNeg (y.toNatClampNeg + (p - v.toNatClampNeg)) else e z.toNatClampNeg p) else e
theorem cp_nat {a : Nat} {y n : Int32} (ha : a ≤ 100) (q1 : ¬ y < 0) (q2 : ¬ n < 0) (q3 : ¬ nI a - y < n) : ∃ i m : Nat, i + m ≤ a ∧ y = nI i ∧ n = nI m := by
  obtain ⟨i, hi, rfl⟩ := nI_of (x := y) q1
  obtain ⟨m, hm, rfl⟩ := nI_of (x := n) q2
  refine ⟨i, m, ?_, rfl, rfl⟩
  rcases Nat.lt_or_ge a i with q | q
  · exfalso
    refine q3 (Int32.lt_of_lt_of_le (b := 0) ?_ (Int32.not_lt.mp q2))
    rw [Int32.lt_iff_toInt_lt, Int32.toInt_sub, nI_toInt (by omega), nI_toInt hi, Int32.toInt_zero]
    rw [Int.bmod_eq_of_le (by omega) (by omega)]
    omega
  · rw [nI_subN q] at q3
    have : ¬ (a - i < m) := fun z => q3 ((nI_ltI (by omega) hm).mpr z)
    omega
theorem cp_nat2 {a b : Nat} {y v n : Int32} (ha : a ≤ 100) (hb : b ≤ 100) (q1 : ¬ y < 0) (q2 : ¬ n < 0) (q3 : ¬ nI a - y < n) (q4 : ¬ v < 0) (q5 : ¬ nI b - v < n) : ∃ i j m : Nat, i + m ≤ a ∧ j + m ≤ b ∧ y = nI i ∧ v = nI j ∧ n = nI m := by
  obtain ⟨i, m, h1, rfl, rfl⟩ := cp_nat ha q1 q2 q3
  obtain ⟨j, m2, h2, rfl, e⟩ := cp_nat hb q4 q2 q5
  have := nI_inj (by omega) (by omega) e
  subst this
  exact ⟨i, j, m, h1, h2, rfl, rfl, rfl⟩
theorem ze_cno {s : Nat → Nat → Nat} {e : Nat → Nat → Int32} {x y z v n : Int32} (q : ¬ cp_sh x z) : ze_copy s e x y z v n = e := if_neg (fun w => q w.1)
theorem ze_cno2 {s : Nat → Nat → Nat} {e : Nat → Nat → Int32} {a b : Nat} {y v n : Int32} (ha : a ≤ 7) (hb : b ≤ 7) (q : ¬ cp_ok s a b y v n) : ze_copy s e (nI a) y (nI b) v n = e := by
  refine if_neg (fun w => q ?_)
  have := w.2
  rw [nI_clamp (by omega), nI_clamp (by omega)] at this
  exact this
theorem zacp_at {s : Nat → Nat → Nat} {a b : Nat} {y v n : Int32} (ha : a ≤ 7) (hb : b ≤ 7) (q : cp_sh (nI a) (nI b)) : za_copy s (nI a) y (nI b) v n = zb_copy s a b y v n := by
  refine (if_pos q).trans ?_
  rw [nI_clamp (by omega), nI_clamp (by omega)]
theorem ze_cat {s : Nat → Nat → Nat} {e : Nat → Nat → Int32} {a b i j m : Nat} (ha : a ≤ 7) (hb : b ≤ 7) (hi : i + m ≤ 100) (hj : j + m ≤ 100) (q : cp_sh (nI a) (nI b)) (k : cp_ok s a b (nI i) (nI j) (nI m)) : ze_copy s e (nI a) (nI i) (nI b) (nI j) (nI m) = ks_put e b (fun p => if j ≤ p ∧ p < j + m then e a (i + (p - j)) else e b p) := by
  refine (if_pos ⟨q, by rw [nI_clamp (by omega), nI_clamp (by omega)]; exact k⟩).trans ?_
  rw [nI_clamp (by omega), nI_clamp (by omega), nI_clamp (by omega), nI_clamp (by omega), nI_clamp (by omega)]
set_option maxHeartbeats 4000000 in
set_option maxRecDepth 20000 in
theorem tk_str {h : jm_M} {s : Nat → Nat → Nat} {e : Nat → Nat → Int32} (K : jk_rel h s e) (Y : kw s) {d : Nat} (hd : d ≤ 7) (qa : s d 0 = 2) {y n : Int32} : jt_Pu 45 [.inr (.inr (3, d, 0)), .inl (y), .inl (n)] h (.inl (jm_b (cp_st s d y n))) := by
  show jt_T 45 (0, [(0, .inr (.inr (3, d, 0))), (1, .inl (y)), (2, .inl (n))], [], h) _
  refine jt_go jm_m45 0 1 (f' := (1, [(0, .inr (.inr (3, d, 0))), (1, .inl (y)), (2, .inl (n))], [.inl (y)], h)) (P := True) rfl trivial ?_
  refine jt_iflt jm_m45 1 (tgt := 22) (nxt := 4) rfl rfl rfl (fun c1 => ?_) (fun c1 => ?_)
  · refine jt_go jm_m45 12 1 (f' := (23, [(0, .inr (.inr (3, d, 0))), (1, .inl (y)), (2, .inl (n))], [.inl (nI 0)], h)) (P := True) rfl trivial ?_
    refine jt_zret jm_m45 13 rfl (Or.inl rfl) ?_
    exact ⟨jt_lb0 (fun z => z.1 c1), rfl⟩
  · refine jt_go jm_m45 2 1 (f' := (5, [(0, .inr (.inr (3, d, 0))), (1, .inl (y)), (2, .inl (n))], [.inl (n)], h)) (P := True) rfl trivial ?_
    refine jt_iflt jm_m45 3 (tgt := 22) (nxt := 8) rfl rfl rfl (fun c5 => ?_) (fun c5 => ?_)
    · refine jt_go jm_m45 12 1 (f' := (23, [(0, .inr (.inr (3, d, 0))), (1, .inl (y)), (2, .inl (n))], [.inl (nI 0)], h)) (P := True) rfl trivial ?_
      refine jt_zret jm_m45 13 rfl (Or.inl rfl) ?_
      exact ⟨jt_lb0 (fun z => z.2.1 c5), rfl⟩
    · refine jt_go jm_m45 4 3 (f' := (13, [(0, .inr (.inr (3, d, 0))), (1, .inl (y)), (2, .inl (n))], [.inl (h (3, d, 0) 4), .inl (n)], h)) (P := True) rfl trivial ?_
      refine jt_ti (show (h (3, d, 0) 4) = nI (s d 4) from jk_size K (d := d) (by omega) (by assumption)) ?_
      have bq1 := kw_z Y (d := d) (by omega) (by assumption)
      refine jt_go jm_m45 7 2 (f' := (15, [(0, .inr (.inr (3, d, 0))), (1, .inl (y)), (2, .inl (n))], [.inl ((nI (s d 4)) - y), .inl (n)], h)) (P := True) rfl trivial ?_
      refine jt_icgt jm_m45 9 (tgt := 22) (nxt := 18) rfl rfl rfl (fun c15 => ?_) (fun c15 => ?_)
      · refine jt_go jm_m45 12 1 (f' := (23, [(0, .inr (.inr (3, d, 0))), (1, .inl (y)), (2, .inl (n))], [.inl (nI 0)], h)) (P := True) rfl trivial ?_
        refine jt_zret jm_m45 13 rfl (Or.inl rfl) ?_
        exact ⟨jt_lb0 (fun z => z.2.2 c15), rfl⟩
      · refine jt_go jm_m45 10 2 (f' := (23, [(0, .inr (.inr (3, d, 0))), (1, .inl (y)), (2, .inl (n))], [.inl (nI 1)], h)) (P := True) rfl trivial ?_
        refine jt_zret jm_m45 13 rfl (Or.inr rfl) ?_
        exact ⟨jt_lb1 (⟨c1, c5, c15⟩), rfl⟩
set_option maxHeartbeats 4000000 in
set_option maxRecDepth 20000 in
theorem ck_copy {h : jm_M} {s : Nat → Nat → Nat} {e : Nat → Nat → Int32} (K : jk_rel h s e) (Y : kw s) {x y z v n : Int32} : jt_T 130 (0, [(0, .inr (.inr (0, 0, 0))), (1, .inl (x)), (2, .inl (y)), (3, .inl (z)), (4, .inl (v)), (5, .inl (n))], [], h) (fun u h' => u = some (.inl (za_copy s x y z v n)) ∧ jk_rel h' s (ze_copy s e x y z v n) ∧ jk_fr h h') := by
  refine jt_go jm_m130 0 1 (f' := (1, [(0, .inr (.inr (0, 0, 0))), (1, .inl (x)), (2, .inl (y)), (3, .inl (z)), (4, .inl (v)), (5, .inl (n))], [.inl (x)], h)) (P := True) rfl trivial ?_
  refine jt_callp (w := .inl (jm_b (nI 0 ≤ x ∧ x ≤ nI 7))) jm_m130 1 (mi' := 137) (as := [.inl (x)]) (rest := []) (nxt := 4) rfl rfl jm_m137 rfl rfl (ta_shelf) ?_
  refine jt_ifbeq jm_m130 2 (tgt := 14) (nxt := 7) rfl rfl rfl (fun c4 => ?_) (fun c4 => ?_)
  · refine jt_go jm_m130 6 1 (f' := (15, [(0, .inr (.inr (0, 0, 0))), (1, .inl (x)), (2, .inl (y)), (3, .inl (z)), (4, .inl (v)), (5, .inl (n))], [.inl ((-1))], h)) (P := True) rfl trivial ?_
    refine jt_iret jm_m130 7 rfl ?_
    have ng : ¬ cp_sh x z := fun q => c4 q.1
    exact ⟨jt_li (if_neg ng).symm, by rw [ze_cno ng]; exact K, jk_fr_rf⟩
  · have r4 := c4
    obtain ⟨a, ha, rfl⟩ := jx_win (by decide) r4
    show jt_T 130 (7, [(0, .inr (.inr (0, 0, 0))), (1, .inl (nI a)), (2, .inl (y)), (3, .inl (z)), (4, .inl (v)), (5, .inl (n))], [], h) _
    refine jt_go jm_m130 3 1 (f' := (8, [(0, .inr (.inr (0, 0, 0))), (1, .inl (nI a)), (2, .inl (y)), (3, .inl (z)), (4, .inl (v)), (5, .inl (n))], [.inl (z)], h)) (P := True) rfl trivial ?_
    refine jt_callp (w := .inl (jm_b (nI 0 ≤ z ∧ z ≤ nI 7))) jm_m130 4 (mi' := 137) (as := [.inl (z)]) (rest := []) (nxt := 11) rfl rfl jm_m137 rfl rfl (ta_shelf) ?_
    refine jt_ifbne jm_m130 5 (tgt := 16) (nxt := 14) rfl rfl rfl (fun c11 => ?_) (fun c11 => ?_)
    · have r11 := c11
      obtain ⟨b, hb, rfl⟩ := jx_win (by decide) r11
      show jt_T 130 (16, [(0, .inr (.inr (0, 0, 0))), (1, .inl (nI a)), (2, .inl (y)), (3, .inl (nI b)), (4, .inl (v)), (5, .inl (n))], [], h) _
      refine jt_go jm_m130 8 4 (f' := (22, [(0, .inr (.inr (0, 0, 0))), (1, .inl (nI a)), (2, .inl (y)), (3, .inl (nI b)), (4, .inl (v)), (5, .inl (n))], [.inr (.inr (3, (nI a).toNatClampNeg, 0))], h)) (P := vp_in (nI a) 8 ∧ True) rfl ⟨(vp_in_nI (by omega) (by decide)), trivial⟩ ?_
      refine jt_tr (show ((3, (nI a).toNatClampNeg, 0) : jm_K) = (3, a, 0) by rw [nI_clamp (by omega)]) ?_
      refine jt_go jm_m130 12 5 (f' := (30, [(6, .inr (.inr (3, a, 0))), (0, .inr (.inr (0, 0, 0))), (1, .inl (nI a)), (2, .inl (y)), (3, .inl (nI b)), (4, .inl (v)), (5, .inl (n))], [.inr (.inr (3, (nI b).toNatClampNeg, 0))], h)) (P := vp_in (nI b) 8 ∧ True) rfl ⟨(vp_in_nI (by omega) (by decide)), trivial⟩ ?_
      refine jt_tr (show ((3, (nI b).toNatClampNeg, 0) : jm_K) = (3, b, 0) by rw [nI_clamp (by omega)]) ?_
      refine jt_go jm_m130 17 3 (f' := (37, [(7, .inr (.inr (3, b, 0))), (6, .inr (.inr (3, a, 0))), (0, .inr (.inr (0, 0, 0))), (1, .inl (nI a)), (2, .inl (y)), (3, .inl (nI b)), (4, .inl (v)), (5, .inl (n))], [.inl (h (3, a, 0) 0)], h)) (P := True) rfl trivial ?_
      refine jt_ti (show (h (3, a, 0) 0) = nI (s a 0) from jk_holds K (d := a) (by omega)) ?_
      have bq1 := kw_a Y (d := a) (by omega)
      refine jt_nifeq jm_m130 20 (by omega) (tgt := 48) (nxt := 40) rfl rfl rfl (fun c37 => ?_) (fun c37 => ?_)
      · refine jt_go jm_m130 24 1 (f' := (50, [(7, .inr (.inr (3, b, 0))), (6, .inr (.inr (3, a, 0))), (0, .inr (.inr (0, 0, 0))), (1, .inl (nI a)), (2, .inl (y)), (3, .inl (nI b)), (4, .inl (v)), (5, .inl (n))], [.inl ((-11))], h)) (P := True) rfl trivial ?_
        refine jt_iret jm_m130 25 rfl ?_
        have ng : ¬ cp_ok s a b y v n := fun q => q.1 (by omega)
        refine ⟨jt_li ?_, by rw [ze_cno2 ha hb ng]; exact K, jk_fr_rf⟩
        rw [zacp_at ha hb ⟨c4, c11⟩]
        unfold zb_copy
        rw [if_pos (by omega)]
      · refine jt_go jm_m130 21 2 (f' := (45, [(7, .inr (.inr (3, b, 0))), (6, .inr (.inr (3, a, 0))), (0, .inr (.inr (0, 0, 0))), (1, .inl (nI a)), (2, .inl (y)), (3, .inl (nI b)), (4, .inl (v)), (5, .inl (n))], [.inl (h (3, b, 0) 0)], h)) (P := True) rfl trivial ?_
        refine jt_ti (show (h (3, b, 0) 0) = nI (s b 0) from jk_holds K (d := b) (by omega)) ?_
        have bq2 := kw_a Y (d := b) (by omega)
        refine jt_nifne jm_m130 23 (by omega) (tgt := 51) (nxt := 48) rfl rfl rfl (fun c45 => ?_) (fun c45 => ?_)
        · refine jt_go jm_m130 26 2 (f' := (56, [(7, .inr (.inr (3, b, 0))), (6, .inr (.inr (3, a, 0))), (0, .inr (.inr (0, 0, 0))), (1, .inl (nI a)), (2, .inl (y)), (3, .inl (nI b)), (4, .inl (v)), (5, .inl (n))], [.inl (h (3, a, 0) 0)], h)) (P := True) rfl trivial ?_
          refine jt_ti (show (h (3, a, 0) 0) = nI (s a 0) from jk_holds K (d := a) (by omega)) ?_
          have bq3 := kw_a Y (d := a) (by omega)
          refine jt_go jm_m130 28 1 (f' := (57, [(7, .inr (.inr (3, b, 0))), (6, .inr (.inr (3, a, 0))), (0, .inr (.inr (0, 0, 0))), (1, .inl (nI a)), (2, .inl (y)), (3, .inl (nI b)), (4, .inl (v)), (5, .inl (n))], [.inl (nI 2), .inl (nI (s a 0))], h)) (P := True) rfl trivial ?_
          refine jt_nicne jm_m130 29 (a := s a 0) (b := 2) (by omega) (by omega) (tgt := 82) (nxt := 60) rfl rfl rfl (fun c57 => ?_) (fun c57 => ?_)
          · refine jt_go jm_m130 39 1 (f' := (84, [(7, .inr (.inr (3, b, 0))), (6, .inr (.inr (3, a, 0))), (0, .inr (.inr (0, 0, 0))), (1, .inl (nI a)), (2, .inl (y)), (3, .inl (nI b)), (4, .inl (v)), (5, .inl (n))], [.inl ((-12))], h)) (P := True) rfl trivial ?_
            refine jt_iret jm_m130 40 rfl ?_
            have ng : ¬ cp_ok s a b y v n := fun q => absurd q.2.1 (by omega)
            refine ⟨jt_li ?_, by rw [ze_cno2 ha hb ng]; exact K, jk_fr_rf⟩
            rw [zacp_at ha hb ⟨c4, c11⟩]
            unfold zb_copy
            rw [if_neg (by omega), if_neg (by omega)]
          · refine jt_go jm_m130 30 2 (f' := (65, [(7, .inr (.inr (3, b, 0))), (6, .inr (.inr (3, a, 0))), (0, .inr (.inr (0, 0, 0))), (1, .inl (nI a)), (2, .inl (y)), (3, .inl (nI b)), (4, .inl (v)), (5, .inl (n))], [.inl (h (3, b, 0) 0)], h)) (P := True) rfl trivial ?_
            refine jt_ti (show (h (3, b, 0) 0) = nI (s b 0) from jk_holds K (d := b) (by omega)) ?_
            have bq4 := kw_a Y (d := b) (by omega)
            refine jt_go jm_m130 32 1 (f' := (66, [(7, .inr (.inr (3, b, 0))), (6, .inr (.inr (3, a, 0))), (0, .inr (.inr (0, 0, 0))), (1, .inl (nI a)), (2, .inl (y)), (3, .inl (nI b)), (4, .inl (v)), (5, .inl (n))], [.inl (nI 2), .inl (nI (s b 0))], h)) (P := True) rfl trivial ?_
            refine jt_nicne jm_m130 33 (a := s b 0) (b := 2) (by omega) (by omega) (tgt := 82) (nxt := 69) rfl rfl rfl (fun c66 => ?_) (fun c66 => ?_)
            · refine jt_go jm_m130 39 1 (f' := (84, [(7, .inr (.inr (3, b, 0))), (6, .inr (.inr (3, a, 0))), (0, .inr (.inr (0, 0, 0))), (1, .inl (nI a)), (2, .inl (y)), (3, .inl (nI b)), (4, .inl (v)), (5, .inl (n))], [.inl ((-12))], h)) (P := True) rfl trivial ?_
              refine jt_iret jm_m130 40 rfl ?_
              have ng : ¬ cp_ok s a b y v n := fun q => absurd q.2.1 (by omega)
              refine ⟨jt_li ?_, by rw [ze_cno2 ha hb ng]; exact K, jk_fr_rf⟩
              rw [zacp_at ha hb ⟨c4, c11⟩]
              unfold zb_copy
              rw [if_neg (by omega), if_neg (by omega)]
            · refine jt_go jm_m130 34 2 (f' := (74, [(7, .inr (.inr (3, b, 0))), (6, .inr (.inr (3, a, 0))), (0, .inr (.inr (0, 0, 0))), (1, .inl (nI a)), (2, .inl (y)), (3, .inl (nI b)), (4, .inl (v)), (5, .inl (n))], [.inl (h (3, a, 0) 3)], h)) (P := True) rfl trivial ?_
              refine jt_ti (show (h (3, a, 0) 3) = nI (s a 3) from jk_sort K (d := a) (by omega) (by assumption)) ?_
              have bq5 := kw_s Y (d := a) (by omega) (by assumption)
              refine jt_go jm_m130 36 2 (f' := (79, [(7, .inr (.inr (3, b, 0))), (6, .inr (.inr (3, a, 0))), (0, .inr (.inr (0, 0, 0))), (1, .inl (nI a)), (2, .inl (y)), (3, .inl (nI b)), (4, .inl (v)), (5, .inl (n))], [.inl (h (3, b, 0) 3), .inl (nI (s a 3))], h)) (P := True) rfl trivial ?_
              refine jt_ti (show (h (3, b, 0) 3) = nI (s b 3) from jk_sort K (d := b) (by omega) (by assumption)) ?_
              have bq6 := kw_s Y (d := b) (by omega) (by assumption)
              refine jt_niceq jm_m130 38 (a := s a 3) (b := s b 3) (by omega) (by omega) (tgt := 85) (nxt := 82) rfl rfl rfl (fun c79 => ?_) (fun c79 => ?_)
              · refine jt_go jm_m130 41 3 (f' := (90, [(7, .inr (.inr (3, b, 0))), (6, .inr (.inr (3, a, 0))), (0, .inr (.inr (0, 0, 0))), (1, .inl (nI a)), (2, .inl (y)), (3, .inl (nI b)), (4, .inl (v)), (5, .inl (n))], [.inl (n), .inl (y), .inr (.inr (3, a, 0))], h)) (P := True) rfl trivial ?_
                refine jt_callp (w := .inl (jm_b (cp_st s a y n))) jm_m130 44 (mi' := 45) (as := [.inr (.inr (3, a, 0)), .inl (y), .inl (n)]) (rest := []) (nxt := 93) rfl rfl jm_m45 rfl rfl (tk_str K Y (by omega) (by assumption)) ?_
                refine jt_ifbeq jm_m130 45 (tgt := 108) (nxt := 96) rfl rfl rfl (fun c93 => ?_) (fun c93 => ?_)
                · refine jt_go jm_m130 51 1 (f' := (110, [(7, .inr (.inr (3, b, 0))), (6, .inr (.inr (3, a, 0))), (0, .inr (.inr (0, 0, 0))), (1, .inl (nI a)), (2, .inl (y)), (3, .inl (nI b)), (4, .inl (v)), (5, .inl (n))], [.inl ((-13))], h)) (P := True) rfl trivial ?_
                  refine jt_iret jm_m130 52 rfl ?_
                  have ng1 : ¬ (cp_st s a y n ∧ cp_st s b v n) := fun z => c93 z.1
                  have ng : ¬ cp_ok s a b y v n := fun q => ng1 q.2.2
                  refine ⟨jt_li ?_, by rw [ze_cno2 ha hb ng]; exact K, jk_fr_rf⟩
                  rw [zacp_at ha hb ⟨c4, c11⟩]
                  unfold zb_copy
                  rw [if_neg (by omega), if_pos (by omega), if_neg ng1]
                · refine jt_go jm_m130 46 3 (f' := (102, [(7, .inr (.inr (3, b, 0))), (6, .inr (.inr (3, a, 0))), (0, .inr (.inr (0, 0, 0))), (1, .inl (nI a)), (2, .inl (y)), (3, .inl (nI b)), (4, .inl (v)), (5, .inl (n))], [.inl (n), .inl (v), .inr (.inr (3, b, 0))], h)) (P := True) rfl trivial ?_
                  refine jt_callp (w := .inl (jm_b (cp_st s b v n))) jm_m130 49 (mi' := 45) (as := [.inr (.inr (3, b, 0)), .inl (v), .inl (n)]) (rest := []) (nxt := 105) rfl rfl jm_m45 rfl rfl (tk_str K Y (by omega) (by assumption)) ?_
                  refine jt_ifbne jm_m130 50 (tgt := 111) (nxt := 108) rfl rfl rfl (fun c105 => ?_) (fun c105 => ?_)
                  · have bza := kw_z Y (d := a) (by omega) (by omega)
                    have bzb := kw_z Y (d := b) (by omega) (by omega)
                    obtain ⟨i, j, m, hi, hj, rfl, rfl, rfl⟩ := cp_nat2 bza bzb c93.1 c93.2.1 c93.2.2 c105.1 c105.2.2
                    show jt_T 130 (111, [(7, .inr (.inr (3, b, 0))), (6, .inr (.inr (3, a, 0))), (0, .inr (.inr (0, 0, 0))), (1, .inl (nI a)), (2, .inl (nI i)), (3, .inl (nI b)), (4, .inl (nI j)), (5, .inl (nI m))], [], h) _
                    refine jt_goM jm_m130 53 8 (pc' := 129) (L' := [(7, .inr (.inr (3, b, 0))), (6, .inr (.inr (3, a, 0))), (0, .inr (.inr (0, 0, 0))), (1, .inl (nI a)), (2, .inl (nI i)), (3, .inl (nI b)), (4, .inl (nI j)), (5, .inl (nI m))]) (st' := []) (m' := jm_set h (3, b, 1) (va_cpy (h (3, a, 1)) (h (3, b, 1)) (nI i).toNatClampNeg (nI j).toNatClampNeg (nI m).toNatClampNeg)) (P := (¬ (nI i) < 0 ∧ ¬ (nI j) < 0 ∧ ¬ (nI m) < 0 ∧ (nI i).toNatClampNeg + (nI m).toNatClampNeg ≤ 100 ∧ (nI j).toNatClampNeg + (nI m).toNatClampNeg ≤ 100) ∧ True) rfl ⟨⟨fun z => absurd ((nI_ltI (by omega) (by decide)).mp z) (Nat.not_lt_zero _), fun z => absurd ((nI_ltI (by omega) (by decide)).mp z) (Nat.not_lt_zero _), fun z => absurd ((nI_ltI (by omega) (by decide)).mp z) (Nat.not_lt_zero _), by rw [nI_clamp (n := i) (by omega), nI_clamp (n := m) (by omega)]; omega, by rw [nI_clamp (n := j) (by omega), nI_clamp (n := m) (by omega)]; omega⟩, trivial⟩ (fun h1 eh1 => ?_)
                    refine jt_go jm_m130 61 1 (f' := (131, [(7, .inr (.inr (3, b, 0))), (6, .inr (.inr (3, a, 0))), (0, .inr (.inr (0, 0, 0))), (1, .inl (nI a)), (2, .inl (nI i)), (3, .inl (nI b)), (4, .inl (nI j)), (5, .inl (nI m))], [.inl (nI m)], h1)) (P := True) rfl trivial ?_
                    refine jt_iret jm_m130 62 rfl ?_
                    have st1 : cp_st s a (nI i) (nI m) := c93
                    have st2 : cp_st s b (nI j) (nI m) := c105
                    have ok : cp_ok s a b (nI i) (nI j) (nI m) := ⟨by omega, by omega, st1, st2⟩
                    have F : ∀ k : jm_K, ¬ (k.1 = 3 ∧ k.2.1 = b) → h1 k = h k := fun k hk => by rw [eh1]; exact jm_set_ne (fun q => hk (by rw [q]; exact ⟨rfl, rfl⟩))
                    refine ⟨jt_li ?_, ?_, jk_fr_one F⟩
                    · rw [zacp_at ha hb ⟨c4, c11⟩]
                      unfold zb_copy
                      rw [if_neg ok.1, if_pos ok.2.1, if_pos ⟨st1, st2⟩]
                    · rw [ze_cat ha hb (by omega) (by omega) ⟨c4, c11⟩ ok]
                      refine jk_pute K F ?_
                      have w := K b (by omega)
                      have w2 := (K a (by omega)).2.2 (by omega)
                      unfold jk_one at w ⊢
                      have a0 : h1 (3, b, 0) = h (3, b, 0) := by rw [eh1]; exact jm_set_ne (jx_k0 (by decide))
                      rw [a0]
                      refine ⟨w.1, w.2.1, fun p => ⟨(w.2.2 p).1, (w.2.2 p).2.1, fun c hc => ?_⟩⟩
                      rw [eh1, jm_set_eq, jx_cpy2, nI_clamp (n := i) (by omega), nI_clamp (n := j) (by omega), nI_clamp (n := m) (by omega)]
                      by_cases q : j ≤ c ∧ c < j + m
                      · rw [if_pos q]; exact (w2.2.2 _ (by omega)).trans (if_pos q).symm
                      · rw [if_neg q]; exact ((w.2.2 p).2.2 c hc).trans (if_neg q).symm
                  · refine jt_go jm_m130 51 1 (f' := (110, [(7, .inr (.inr (3, b, 0))), (6, .inr (.inr (3, a, 0))), (0, .inr (.inr (0, 0, 0))), (1, .inl (nI a)), (2, .inl (y)), (3, .inl (nI b)), (4, .inl (v)), (5, .inl (n))], [.inl ((-13))], h)) (P := True) rfl trivial ?_
                    refine jt_iret jm_m130 52 rfl ?_
                    have ng1 : ¬ (cp_st s a y n ∧ cp_st s b v n) := fun z => c105 z.2
                    have ng : ¬ cp_ok s a b y v n := fun q => ng1 q.2.2
                    refine ⟨jt_li ?_, by rw [ze_cno2 ha hb ng]; exact K, jk_fr_rf⟩
                    rw [zacp_at ha hb ⟨c4, c11⟩]
                    unfold zb_copy
                    rw [if_neg (by omega), if_pos (by omega), if_neg ng1]
              · refine jt_go jm_m130 39 1 (f' := (84, [(7, .inr (.inr (3, b, 0))), (6, .inr (.inr (3, a, 0))), (0, .inr (.inr (0, 0, 0))), (1, .inl (nI a)), (2, .inl (y)), (3, .inl (nI b)), (4, .inl (v)), (5, .inl (n))], [.inl ((-12))], h)) (P := True) rfl trivial ?_
                refine jt_iret jm_m130 40 rfl ?_
                have ng : ¬ cp_ok s a b y v n := fun q => absurd q.2.1 (by omega)
                refine ⟨jt_li ?_, by rw [ze_cno2 ha hb ng]; exact K, jk_fr_rf⟩
                rw [zacp_at ha hb ⟨c4, c11⟩]
                unfold zb_copy
                rw [if_neg (by omega), if_neg (by omega)]
        · refine jt_go jm_m130 24 1 (f' := (50, [(7, .inr (.inr (3, b, 0))), (6, .inr (.inr (3, a, 0))), (0, .inr (.inr (0, 0, 0))), (1, .inl (nI a)), (2, .inl (y)), (3, .inl (nI b)), (4, .inl (v)), (5, .inl (n))], [.inl ((-11))], h)) (P := True) rfl trivial ?_
          refine jt_iret jm_m130 25 rfl ?_
          have ng : ¬ cp_ok s a b y v n := fun q => q.1 (by omega)
          refine ⟨jt_li ?_, by rw [ze_cno2 ha hb ng]; exact K, jk_fr_rf⟩
          rw [zacp_at ha hb ⟨c4, c11⟩]
          unfold zb_copy
          rw [if_pos (by omega)]
    · refine jt_go jm_m130 6 1 (f' := (15, [(0, .inr (.inr (0, 0, 0))), (1, .inl (nI a)), (2, .inl (y)), (3, .inl (z)), (4, .inl (v)), (5, .inl (n))], [.inl ((-1))], h)) (P := True) rfl trivial ?_
      refine jt_iret jm_m130 7 rfl ?_
      have ng : ¬ cp_sh (nI a) z := fun q => c11 q.2
      exact ⟨jt_li (if_neg ng).symm, by rw [ze_cno ng]; exact K, jk_fr_rf⟩
set_option maxHeartbeats 4000000 in
set_option maxRecDepth 20000 in
theorem cl_copy_f {h : jm_M} {a b i j m : Nat} (ha : a ≤ 7) (hb : b ≤ 7) (hi : i + m ≤ 100) (hj : j + m ≤ 100) (hij : j < i) : ∀ k, k ≤ m → ∀ hm : jm_M, (∀ q, q < k → hm (4, 0, 8) (100 * b + j + q) = h (4, 0, 8) (100 * a + i + q)) → (∀ c, ¬ (100 * b + j ≤ c ∧ c < 100 * b + j + k) → hm (4, 0, 8) c = h (4, 0, 8) c) → (∀ q : jm_K, q ≠ (4, 0, 8) → hm q = h q) → jt_T 234 (122, [(0, .inr (.inr (4, 0, 0))), (1, .inl (nI a)), (2, .inl (nI i)), (3, .inl (nI b)), (4, .inl (nI j)), (5, .inl (nI m)), (6, .inl (nI k))], [], hm) (fun u h' => u = some (.inl (nI m)) ∧ (∀ q, q < m → h' (4, 0, 8) (100 * b + j + q) = h (4, 0, 8) (100 * a + i + q)) ∧ (∀ c, ¬ (100 * b + j ≤ c ∧ c < 100 * b + j + m) → h' (4, 0, 8) c = h (4, 0, 8) c) ∧ ∀ q : jm_K, q ≠ (4, 0, 8) → h' q = h q) := jx_up (P := fun k => ∀ hm : jm_M, (∀ q, q < k → hm (4, 0, 8) (100 * b + j + q) = h (4, 0, 8) (100 * a + i + q)) → (∀ c, ¬ (100 * b + j ≤ c ∧ c < 100 * b + j + k) → hm (4, 0, 8) c = h (4, 0, 8) c) → (∀ q : jm_K, q ≠ (4, 0, 8) → hm q = h q) → jt_T 234 (122, [(0, .inr (.inr (4, 0, 0))), (1, .inl (nI a)), (2, .inl (nI i)), (3, .inl (nI b)), (4, .inl (nI j)), (5, .inl (nI m)), (6, .inl (nI k))], [], hm) (fun u h' => u = some (.inl (nI m)) ∧ (∀ q, q < m → h' (4, 0, 8) (100 * b + j + q) = h (4, 0, 8) (100 * a + i + q)) ∧ (∀ c, ¬ (100 * b + j ≤ c ∧ c < 100 * b + j + m) → h' (4, 0, 8) c = h (4, 0, 8) c) ∧ ∀ q : jm_K, q ≠ (4, 0, 8) → h' q = h q)) (fun k hk nx hm Z G F => by
  refine jt_go jm_m234 69 2 (f' := (126, [(0, .inr (.inr (4, 0, 0))), (1, .inl (nI a)), (2, .inl (nI i)), (3, .inl (nI b)), (4, .inl (nI j)), (5, .inl (nI m)), (6, .inl (nI k))], [.inl (nI m), .inl (nI k)], hm)) (P := True) rfl trivial ?_
  refine jt_nicge jm_m234 71 (a := k) (b := m) (by omega) (by omega) (tgt := 184) (nxt := 129) rfl rfl rfl (fun c126 => ?_) (fun c126 => ?_)
  · refine jt_go jm_m234 105 1 (f' := (186, [(0, .inr (.inr (4, 0, 0))), (1, .inl (nI a)), (2, .inl (nI i)), (3, .inl (nI b)), (4, .inl (nI j)), (5, .inl (nI m)), (6, .inl (nI k))], [.inl (nI m)], hm)) (P := True) rfl trivial ?_
    refine jt_iret jm_m234 106 rfl ?_
    have e : k = m := by omega
    subst e
    exact ⟨rfl, Z, G, F⟩
  · refine jt_go jm_m234 72 2 (f' := (132, [(0, .inr (.inr (4, 0, 0))), (1, .inl (nI a)), (2, .inl (nI i)), (3, .inl (nI b)), (4, .inl (nI j)), (5, .inl (nI m)), (6, .inl (nI k))], [.inl (nI j), .inl (nI i)], hm)) (P := True) rfl trivial ?_
    refine jt_nicle jm_m234 74 (a := i) (b := j) (by omega) (by omega) (tgt := 140) (nxt := 135) rfl rfl rfl (fun c132 => ?_) (fun c132 => ?_)
    · exact absurd hij (by omega)
    · refine jt_go jm_m234 75 2 (f' := (147, [(0, .inr (.inr (4, 0, 0))), (1, .inl (nI a)), (2, .inl (nI i)), (3, .inl (nI b)), (4, .inl (nI j)), (5, .inl (nI m)), (6, .inl (nI k))], [.inl (nI k)], hm)) (P := True) rfl trivial ?_
      refine jt_go jm_m234 82 6 (f' := (157, [(7, .inl (nI k)), (0, .inr (.inr (4, 0, 0))), (1, .inl (nI a)), (2, .inl (nI i)), (3, .inl (nI b)), (4, .inl (nI j)), (5, .inl (nI m)), (6, .inl (nI k))], [.inl ((nI 100) * (nI b)), .inr (.inr (4, 0, 8))], hm)) (P := True) rfl trivial ?_
      refine jt_ti (show ((nI 100) * (nI b)) = nI (100 * b) from nI_mul _ _) ?_
      refine jt_go jm_m234 88 2 (f' := (160, [(7, .inl (nI k)), (0, .inr (.inr (4, 0, 0))), (1, .inl (nI a)), (2, .inl (nI i)), (3, .inl (nI b)), (4, .inl (nI j)), (5, .inl (nI m)), (6, .inl (nI k))], [.inl ((nI (100 * b)) + (nI j)), .inr (.inr (4, 0, 8))], hm)) (P := True) rfl trivial ?_
      refine jt_ti (show ((nI (100 * b)) + (nI j)) = nI (100 * b + j) from nI_add _ _) ?_
      refine jt_go jm_m234 90 2 (f' := (163, [(7, .inl (nI k)), (0, .inr (.inr (4, 0, 0))), (1, .inl (nI a)), (2, .inl (nI i)), (3, .inl (nI b)), (4, .inl (nI j)), (5, .inl (nI m)), (6, .inl (nI k))], [.inl ((nI (100 * b + j)) + (nI k)), .inr (.inr (4, 0, 8))], hm)) (P := True) rfl trivial ?_
      refine jt_ti (show ((nI (100 * b + j)) + (nI k)) = nI (100 * b + j + k) from nI_add _ _) ?_
      refine jt_go jm_m234 92 5 (f' := (171, [(7, .inl (nI k)), (0, .inr (.inr (4, 0, 0))), (1, .inl (nI a)), (2, .inl (nI i)), (3, .inl (nI b)), (4, .inl (nI j)), (5, .inl (nI m)), (6, .inl (nI k))], [.inl ((nI 100) * (nI a)), .inr (.inr (4, 0, 8)), .inl (nI (100 * b + j + k)), .inr (.inr (4, 0, 8))], hm)) (P := True) rfl trivial ?_
      refine jt_ti (show ((nI 100) * (nI a)) = nI (100 * a) from nI_mul _ _) ?_
      refine jt_go jm_m234 97 2 (f' := (173, [(7, .inl (nI k)), (0, .inr (.inr (4, 0, 0))), (1, .inl (nI a)), (2, .inl (nI i)), (3, .inl (nI b)), (4, .inl (nI j)), (5, .inl (nI m)), (6, .inl (nI k))], [.inl ((nI (100 * a)) + (nI i)), .inr (.inr (4, 0, 8)), .inl (nI (100 * b + j + k)), .inr (.inr (4, 0, 8))], hm)) (P := True) rfl trivial ?_
      refine jt_ti (show ((nI (100 * a)) + (nI i)) = nI (100 * a + i) from nI_add _ _) ?_
      refine jt_go jm_m234 99 2 (f' := (176, [(7, .inl (nI k)), (0, .inr (.inr (4, 0, 0))), (1, .inl (nI a)), (2, .inl (nI i)), (3, .inl (nI b)), (4, .inl (nI j)), (5, .inl (nI m)), (6, .inl (nI k))], [.inl ((nI (100 * a + i)) + (nI k)), .inr (.inr (4, 0, 8)), .inl (nI (100 * b + j + k)), .inr (.inr (4, 0, 8))], hm)) (P := True) rfl trivial ?_
      refine jt_ti (show ((nI (100 * a + i)) + (nI k)) = nI (100 * a + i + k) from nI_add _ _) ?_
      refine jt_go jm_m234 101 1 (f' := (177, [(7, .inl (nI k)), (0, .inr (.inr (4, 0, 0))), (1, .inl (nI a)), (2, .inl (nI i)), (3, .inl (nI b)), (4, .inl (nI j)), (5, .inl (nI m)), (6, .inl (nI k))], [.inl (hm (4, 0, 8) (nI (100 * a + i + k)).toNatClampNeg), .inl (nI (100 * b + j + k)), .inr (.inr (4, 0, 8))], hm)) (P := vp_in (nI (100 * a + i + k)) 800 ∧ True) rfl ⟨(vp_in_nI (by omega) (by decide)), trivial⟩ ?_
      refine jt_tn (fun x1 ex1 => ?_)
      refine jt_goM jm_m234 102 1 (pc' := 178) (L' := [(7, .inl (nI k)), (0, .inr (.inr (4, 0, 0))), (1, .inl (nI a)), (2, .inl (nI i)), (3, .inl (nI b)), (4, .inl (nI j)), (5, .inl (nI m)), (6, .inl (nI k))]) (st' := []) (m' := jm_set hm (4, 0, 8) (upd (hm (4, 0, 8)) (nI (100 * b + j + k)).toNatClampNeg x1)) (P := vp_in (nI (100 * b + j + k)) 800 ∧ True) rfl ⟨(vp_in_nI (by omega) (by decide)), trivial⟩ (fun h1 eh1 => ?_)
      refine jt_inc jm_m234 103 (c := k) (L' := [(6, .inl (nI (k + 1))), (7, .inl (nI k)), (0, .inr (.inr (4, 0, 0))), (1, .inl (nI a)), (2, .inl (nI i)), (3, .inl (nI b)), (4, .inl (nI j)), (5, .inl (nI m))]) rfl rfl rfl rfl ?_
      refine jt_go jm_m234 104 1 (f' := (122, [(6, .inl (nI (k + 1))), (7, .inl (nI k)), (0, .inr (.inr (4, 0, 0))), (1, .inl (nI a)), (2, .inl (nI i)), (3, .inl (nI b)), (4, .inl (nI j)), (5, .inl (nI m))], [], h1)) (P := True) rfl trivial ?_
      refine jt_pick (L' := [(0, .inr (.inr (4, 0, 0))), (1, .inl (nI a)), (2, .inl (nI i)), (3, .inl (nI b)), (4, .inl (nI j)), (5, .inl (nI m)), (6, .inl (nI (k + 1)))]) [2, 3, 4, 5, 6, 7, 0] rfl ?_
      have xx : x1 = h (4, 0, 8) (100 * a + i + k) := by rw [ex1, nI_clamp (by omega)]; exact G _ (by omega)
      exact nx (by omega) h1 (fun q hq => by
        rw [eh1, jm_set_eq, nI_clamp (by omega)]
        by_cases e : q = k
        · rw [e, jx_eq]; exact xx
        · rw [jx_ne (by omega)]; exact Z q (by omega)) (fun c hc => by rw [eh1, jm_set_eq, nI_clamp (by omega), jx_ne (by omega)]; exact G c (by omega)) (fun q hq => by rw [eh1, jm_set_ne hq]; exact F q hq))
set_option maxHeartbeats 4000000 in
set_option maxRecDepth 20000 in
theorem cl_copy_b {h : jm_M} {a b i j m : Nat} (ha : a ≤ 7) (hb : b ≤ 7) (hi : i + m ≤ 100) (hj : j + m ≤ 100) (hij : ¬ j < i) : ∀ k, k ≤ m → ∀ hm : jm_M, (∀ q, m - k ≤ q → q < m → hm (4, 0, 8) (100 * b + j + q) = h (4, 0, 8) (100 * a + i + q)) → (∀ c, ¬ (100 * b + j + (m - k) ≤ c ∧ c < 100 * b + j + m) → hm (4, 0, 8) c = h (4, 0, 8) c) → (∀ q : jm_K, q ≠ (4, 0, 8) → hm q = h q) → jt_T 234 (122, [(0, .inr (.inr (4, 0, 0))), (1, .inl (nI a)), (2, .inl (nI i)), (3, .inl (nI b)), (4, .inl (nI j)), (5, .inl (nI m)), (6, .inl (nI k))], [], hm) (fun u h' => u = some (.inl (nI m)) ∧ (∀ q, q < m → h' (4, 0, 8) (100 * b + j + q) = h (4, 0, 8) (100 * a + i + q)) ∧ (∀ c, ¬ (100 * b + j ≤ c ∧ c < 100 * b + j + m) → h' (4, 0, 8) c = h (4, 0, 8) c) ∧ ∀ q : jm_K, q ≠ (4, 0, 8) → h' q = h q) := jx_up (P := fun k => ∀ hm : jm_M, (∀ q, m - k ≤ q → q < m → hm (4, 0, 8) (100 * b + j + q) = h (4, 0, 8) (100 * a + i + q)) → (∀ c, ¬ (100 * b + j + (m - k) ≤ c ∧ c < 100 * b + j + m) → hm (4, 0, 8) c = h (4, 0, 8) c) → (∀ q : jm_K, q ≠ (4, 0, 8) → hm q = h q) → jt_T 234 (122, [(0, .inr (.inr (4, 0, 0))), (1, .inl (nI a)), (2, .inl (nI i)), (3, .inl (nI b)), (4, .inl (nI j)), (5, .inl (nI m)), (6, .inl (nI k))], [], hm) (fun u h' => u = some (.inl (nI m)) ∧ (∀ q, q < m → h' (4, 0, 8) (100 * b + j + q) = h (4, 0, 8) (100 * a + i + q)) ∧ (∀ c, ¬ (100 * b + j ≤ c ∧ c < 100 * b + j + m) → h' (4, 0, 8) c = h (4, 0, 8) c) ∧ ∀ q : jm_K, q ≠ (4, 0, 8) → h' q = h q)) (fun k hk nx hm Z G F => by
  refine jt_go jm_m234 69 2 (f' := (126, [(0, .inr (.inr (4, 0, 0))), (1, .inl (nI a)), (2, .inl (nI i)), (3, .inl (nI b)), (4, .inl (nI j)), (5, .inl (nI m)), (6, .inl (nI k))], [.inl (nI m), .inl (nI k)], hm)) (P := True) rfl trivial ?_
  refine jt_nicge jm_m234 71 (a := k) (b := m) (by omega) (by omega) (tgt := 184) (nxt := 129) rfl rfl rfl (fun c126 => ?_) (fun c126 => ?_)
  · refine jt_go jm_m234 105 1 (f' := (186, [(0, .inr (.inr (4, 0, 0))), (1, .inl (nI a)), (2, .inl (nI i)), (3, .inl (nI b)), (4, .inl (nI j)), (5, .inl (nI m)), (6, .inl (nI k))], [.inl (nI m)], hm)) (P := True) rfl trivial ?_
    refine jt_iret jm_m234 106 rfl ?_
    have e : k = m := by omega
    subst e
    exact ⟨rfl, fun q hq => Z q (by omega) hq, fun c hc => G c (by omega), F⟩
  · refine jt_go jm_m234 72 2 (f' := (132, [(0, .inr (.inr (4, 0, 0))), (1, .inl (nI a)), (2, .inl (nI i)), (3, .inl (nI b)), (4, .inl (nI j)), (5, .inl (nI m)), (6, .inl (nI k))], [.inl (nI j), .inl (nI i)], hm)) (P := True) rfl trivial ?_
    refine jt_nicle jm_m234 74 (a := i) (b := j) (by omega) (by omega) (tgt := 140) (nxt := 135) rfl rfl rfl (fun c132 => ?_) (fun c132 => ?_)
    · refine jt_go jm_m234 77 3 (f' := (144, [(0, .inr (.inr (4, 0, 0))), (1, .inl (nI a)), (2, .inl (nI i)), (3, .inl (nI b)), (4, .inl (nI j)), (5, .inl (nI m)), (6, .inl (nI k))], [.inl ((nI m) - (nI 1))], hm)) (P := True) rfl trivial ?_
      refine jt_ti (show ((nI m) - (nI 1)) = nI (m - 1) from nI_subN (by omega)) ?_
      refine jt_go jm_m234 80 2 (f' := (147, [(0, .inr (.inr (4, 0, 0))), (1, .inl (nI a)), (2, .inl (nI i)), (3, .inl (nI b)), (4, .inl (nI j)), (5, .inl (nI m)), (6, .inl (nI k))], [.inl ((nI (m - 1)) - (nI k))], hm)) (P := True) rfl trivial ?_
      refine jt_ti (show ((nI (m - 1)) - (nI k)) = nI (m - 1 - k) from nI_subN (by omega)) ?_
      refine jt_go jm_m234 82 6 (f' := (157, [(7, .inl (nI (m - 1 - k))), (0, .inr (.inr (4, 0, 0))), (1, .inl (nI a)), (2, .inl (nI i)), (3, .inl (nI b)), (4, .inl (nI j)), (5, .inl (nI m)), (6, .inl (nI k))], [.inl ((nI 100) * (nI b)), .inr (.inr (4, 0, 8))], hm)) (P := True) rfl trivial ?_
      refine jt_ti (show ((nI 100) * (nI b)) = nI (100 * b) from nI_mul _ _) ?_
      refine jt_go jm_m234 88 2 (f' := (160, [(7, .inl (nI (m - 1 - k))), (0, .inr (.inr (4, 0, 0))), (1, .inl (nI a)), (2, .inl (nI i)), (3, .inl (nI b)), (4, .inl (nI j)), (5, .inl (nI m)), (6, .inl (nI k))], [.inl ((nI (100 * b)) + (nI j)), .inr (.inr (4, 0, 8))], hm)) (P := True) rfl trivial ?_
      refine jt_ti (show ((nI (100 * b)) + (nI j)) = nI (100 * b + j) from nI_add _ _) ?_
      refine jt_go jm_m234 90 2 (f' := (163, [(7, .inl (nI (m - 1 - k))), (0, .inr (.inr (4, 0, 0))), (1, .inl (nI a)), (2, .inl (nI i)), (3, .inl (nI b)), (4, .inl (nI j)), (5, .inl (nI m)), (6, .inl (nI k))], [.inl ((nI (100 * b + j)) + (nI (m - 1 - k))), .inr (.inr (4, 0, 8))], hm)) (P := True) rfl trivial ?_
      refine jt_ti (show ((nI (100 * b + j)) + (nI (m - 1 - k))) = nI (100 * b + j + (m - 1 - k)) from nI_add _ _) ?_
      refine jt_go jm_m234 92 5 (f' := (171, [(7, .inl (nI (m - 1 - k))), (0, .inr (.inr (4, 0, 0))), (1, .inl (nI a)), (2, .inl (nI i)), (3, .inl (nI b)), (4, .inl (nI j)), (5, .inl (nI m)), (6, .inl (nI k))], [.inl ((nI 100) * (nI a)), .inr (.inr (4, 0, 8)), .inl (nI (100 * b + j + (m - 1 - k))), .inr (.inr (4, 0, 8))], hm)) (P := True) rfl trivial ?_
      refine jt_ti (show ((nI 100) * (nI a)) = nI (100 * a) from nI_mul _ _) ?_
      refine jt_go jm_m234 97 2 (f' := (173, [(7, .inl (nI (m - 1 - k))), (0, .inr (.inr (4, 0, 0))), (1, .inl (nI a)), (2, .inl (nI i)), (3, .inl (nI b)), (4, .inl (nI j)), (5, .inl (nI m)), (6, .inl (nI k))], [.inl ((nI (100 * a)) + (nI i)), .inr (.inr (4, 0, 8)), .inl (nI (100 * b + j + (m - 1 - k))), .inr (.inr (4, 0, 8))], hm)) (P := True) rfl trivial ?_
      refine jt_ti (show ((nI (100 * a)) + (nI i)) = nI (100 * a + i) from nI_add _ _) ?_
      refine jt_go jm_m234 99 2 (f' := (176, [(7, .inl (nI (m - 1 - k))), (0, .inr (.inr (4, 0, 0))), (1, .inl (nI a)), (2, .inl (nI i)), (3, .inl (nI b)), (4, .inl (nI j)), (5, .inl (nI m)), (6, .inl (nI k))], [.inl ((nI (100 * a + i)) + (nI (m - 1 - k))), .inr (.inr (4, 0, 8)), .inl (nI (100 * b + j + (m - 1 - k))), .inr (.inr (4, 0, 8))], hm)) (P := True) rfl trivial ?_
      refine jt_ti (show ((nI (100 * a + i)) + (nI (m - 1 - k))) = nI (100 * a + i + (m - 1 - k)) from nI_add _ _) ?_
      refine jt_go jm_m234 101 1 (f' := (177, [(7, .inl (nI (m - 1 - k))), (0, .inr (.inr (4, 0, 0))), (1, .inl (nI a)), (2, .inl (nI i)), (3, .inl (nI b)), (4, .inl (nI j)), (5, .inl (nI m)), (6, .inl (nI k))], [.inl (hm (4, 0, 8) (nI (100 * a + i + (m - 1 - k))).toNatClampNeg), .inl (nI (100 * b + j + (m - 1 - k))), .inr (.inr (4, 0, 8))], hm)) (P := vp_in (nI (100 * a + i + (m - 1 - k))) 800 ∧ True) rfl ⟨(vp_in_nI (by omega) (by decide)), trivial⟩ ?_
      refine jt_tn (fun x1 ex1 => ?_)
      refine jt_goM jm_m234 102 1 (pc' := 178) (L' := [(7, .inl (nI (m - 1 - k))), (0, .inr (.inr (4, 0, 0))), (1, .inl (nI a)), (2, .inl (nI i)), (3, .inl (nI b)), (4, .inl (nI j)), (5, .inl (nI m)), (6, .inl (nI k))]) (st' := []) (m' := jm_set hm (4, 0, 8) (upd (hm (4, 0, 8)) (nI (100 * b + j + (m - 1 - k))).toNatClampNeg x1)) (P := vp_in (nI (100 * b + j + (m - 1 - k))) 800 ∧ True) rfl ⟨(vp_in_nI (by omega) (by decide)), trivial⟩ (fun h1 eh1 => ?_)
      refine jt_inc jm_m234 103 (c := k) (L' := [(6, .inl (nI (k + 1))), (7, .inl (nI (m - 1 - k))), (0, .inr (.inr (4, 0, 0))), (1, .inl (nI a)), (2, .inl (nI i)), (3, .inl (nI b)), (4, .inl (nI j)), (5, .inl (nI m))]) rfl rfl rfl rfl ?_
      refine jt_go jm_m234 104 1 (f' := (122, [(6, .inl (nI (k + 1))), (7, .inl (nI (m - 1 - k))), (0, .inr (.inr (4, 0, 0))), (1, .inl (nI a)), (2, .inl (nI i)), (3, .inl (nI b)), (4, .inl (nI j)), (5, .inl (nI m))], [], h1)) (P := True) rfl trivial ?_
      refine jt_pick (L' := [(0, .inr (.inr (4, 0, 0))), (1, .inl (nI a)), (2, .inl (nI i)), (3, .inl (nI b)), (4, .inl (nI j)), (5, .inl (nI m)), (6, .inl (nI (k + 1)))]) [2, 3, 4, 5, 6, 7, 0] rfl ?_
      have xx : x1 = h (4, 0, 8) (100 * a + i + (m - 1 - k)) := by rw [ex1, nI_clamp (by omega)]; exact G _ (by omega)
      exact nx (by omega) h1 (fun q hl hq => by
        rw [eh1, jm_set_eq, nI_clamp (by omega)]
        by_cases e : q = (m - 1 - k)
        · rw [e, jx_eq]; exact xx
        · rw [jx_ne (by omega)]; exact Z q (by omega) (by omega)) (fun c hc => by rw [eh1, jm_set_eq, nI_clamp (by omega), jx_ne (by omega)]; exact G c (by omega)) (fun q hq => by rw [eh1, jm_set_ne hq]; exact F q hq)
    · exact absurd hij (by omega))
set_option maxHeartbeats 4000000 in
set_option maxRecDepth 20000 in
theorem cl_copy {h : jm_M} {s : Nat → Nat → Nat} {e : Nat → Nat → Int32} (K : jl_rel h s e) (Y : kw s) {x y z v n : Int32} : jt_T 234 (0, [(0, .inr (.inr (4, 0, 0))), (1, .inl (x)), (2, .inl (y)), (3, .inl (z)), (4, .inl (v)), (5, .inl (n))], [], h) (fun u h' => u = some (.inl (za_copy s x y z v n)) ∧ jl_rel h' s (ze_copy s e x y z v n) ∧ jl_fr h h') := by
  refine jt_go jm_m234 0 1 (f' := (1, [(0, .inr (.inr (4, 0, 0))), (1, .inl (x)), (2, .inl (y)), (3, .inl (z)), (4, .inl (v)), (5, .inl (n))], [.inl (x)], h)) (P := True) rfl trivial ?_
  refine jt_callp (w := .inl (jm_b (nI 0 ≤ x ∧ x ≤ nI 7))) jm_m234 1 (mi' := 227) (as := [.inl (x)]) (rest := []) (nxt := 4) rfl rfl jm_m227 rfl rfl (tb_shelf) ?_
  refine jt_ifbeq jm_m234 2 (tgt := 14) (nxt := 7) rfl rfl rfl (fun c4 => ?_) (fun c4 => ?_)
  · refine jt_go jm_m234 6 1 (f' := (15, [(0, .inr (.inr (4, 0, 0))), (1, .inl (x)), (2, .inl (y)), (3, .inl (z)), (4, .inl (v)), (5, .inl (n))], [.inl ((-1))], h)) (P := True) rfl trivial ?_
    refine jt_iret jm_m234 7 rfl ?_
    have ng : ¬ cp_sh x z := fun q => c4 q.1
    exact ⟨jt_li (if_neg ng).symm, by rw [ze_cno ng]; exact K, jl_fr_rf⟩
  · have r4 := c4
    obtain ⟨a, ha, rfl⟩ := jx_win (by decide) r4
    show jt_T 234 (7, [(0, .inr (.inr (4, 0, 0))), (1, .inl (nI a)), (2, .inl (y)), (3, .inl (z)), (4, .inl (v)), (5, .inl (n))], [], h) _
    refine jt_go jm_m234 3 1 (f' := (8, [(0, .inr (.inr (4, 0, 0))), (1, .inl (nI a)), (2, .inl (y)), (3, .inl (z)), (4, .inl (v)), (5, .inl (n))], [.inl (z)], h)) (P := True) rfl trivial ?_
    refine jt_callp (w := .inl (jm_b (nI 0 ≤ z ∧ z ≤ nI 7))) jm_m234 4 (mi' := 227) (as := [.inl (z)]) (rest := []) (nxt := 11) rfl rfl jm_m227 rfl rfl (tb_shelf) ?_
    refine jt_ifbne jm_m234 5 (tgt := 16) (nxt := 14) rfl rfl rfl (fun c11 => ?_) (fun c11 => ?_)
    · have r11 := c11
      obtain ⟨b, hb, rfl⟩ := jx_win (by decide) r11
      show jt_T 234 (16, [(0, .inr (.inr (4, 0, 0))), (1, .inl (nI a)), (2, .inl (y)), (3, .inl (nI b)), (4, .inl (v)), (5, .inl (n))], [], h) _
      refine jt_go jm_m234 8 4 (f' := (22, [(0, .inr (.inr (4, 0, 0))), (1, .inl (nI a)), (2, .inl (y)), (3, .inl (nI b)), (4, .inl (v)), (5, .inl (n))], [.inl (h (4, 0, 3) (nI a).toNatClampNeg)], h)) (P := vp_in (nI a) 8 ∧ True) rfl ⟨(vp_in_nI (by omega) (by decide)), trivial⟩ ?_
      refine jt_ti (show (h (4, 0, 3) (nI a).toNatClampNeg) = nI (s a 0) from jl_holds K (d := a) (nI_clamp (by omega)) (by omega)) ?_
      have bq1 := kw_a Y (d := a) (by omega)
      refine jt_nifeq jm_m234 12 (by omega) (tgt := 34) (nxt := 25) rfl rfl rfl (fun c22 => ?_) (fun c22 => ?_)
      · refine jt_go jm_m234 18 1 (f' := (36, [(0, .inr (.inr (4, 0, 0))), (1, .inl (nI a)), (2, .inl (y)), (3, .inl (nI b)), (4, .inl (v)), (5, .inl (n))], [.inl ((-11))], h)) (P := True) rfl trivial ?_
        refine jt_iret jm_m234 19 rfl ?_
        have ng : ¬ cp_ok s a b y v n := fun q => q.1 (by omega)
        refine ⟨jt_li ?_, by rw [ze_cno2 ha hb ng]; exact K, jl_fr_rf⟩
        rw [zacp_at ha hb ⟨c4, c11⟩]
        unfold zb_copy
        rw [if_pos (by omega)]
      · refine jt_go jm_m234 13 4 (f' := (31, [(0, .inr (.inr (4, 0, 0))), (1, .inl (nI a)), (2, .inl (y)), (3, .inl (nI b)), (4, .inl (v)), (5, .inl (n))], [.inl (h (4, 0, 3) (nI b).toNatClampNeg)], h)) (P := vp_in (nI b) 8 ∧ True) rfl ⟨(vp_in_nI (by omega) (by decide)), trivial⟩ ?_
        refine jt_ti (show (h (4, 0, 3) (nI b).toNatClampNeg) = nI (s b 0) from jl_holds K (d := b) (nI_clamp (by omega)) (by omega)) ?_
        have bq2 := kw_a Y (d := b) (by omega)
        refine jt_nifne jm_m234 17 (by omega) (tgt := 37) (nxt := 34) rfl rfl rfl (fun c31 => ?_) (fun c31 => ?_)
        · refine jt_go jm_m234 20 4 (f' := (43, [(0, .inr (.inr (4, 0, 0))), (1, .inl (nI a)), (2, .inl (y)), (3, .inl (nI b)), (4, .inl (v)), (5, .inl (n))], [.inl (h (4, 0, 3) (nI a).toNatClampNeg)], h)) (P := vp_in (nI a) 8 ∧ True) rfl ⟨(vp_in_nI (by omega) (by decide)), trivial⟩ ?_
          refine jt_ti (show (h (4, 0, 3) (nI a).toNatClampNeg) = nI (s a 0) from jl_holds K (d := a) (nI_clamp (by omega)) (by omega)) ?_
          have bq3 := kw_a Y (d := a) (by omega)
          refine jt_go jm_m234 24 1 (f' := (44, [(0, .inr (.inr (4, 0, 0))), (1, .inl (nI a)), (2, .inl (y)), (3, .inl (nI b)), (4, .inl (v)), (5, .inl (n))], [.inl (nI 2), .inl (nI (s a 0))], h)) (P := True) rfl trivial ?_
          refine jt_nicne jm_m234 25 (a := s a 0) (b := 2) (by omega) (by omega) (tgt := 72) (nxt := 47) rfl rfl rfl (fun c44 => ?_) (fun c44 => ?_)
          · refine jt_go jm_m234 41 1 (f' := (74, [(0, .inr (.inr (4, 0, 0))), (1, .inl (nI a)), (2, .inl (y)), (3, .inl (nI b)), (4, .inl (v)), (5, .inl (n))], [.inl ((-12))], h)) (P := True) rfl trivial ?_
            refine jt_iret jm_m234 42 rfl ?_
            have ng : ¬ cp_ok s a b y v n := fun q => absurd q.2.1 (by omega)
            refine ⟨jt_li ?_, by rw [ze_cno2 ha hb ng]; exact K, jl_fr_rf⟩
            rw [zacp_at ha hb ⟨c4, c11⟩]
            unfold zb_copy
            rw [if_neg (by omega), if_neg (by omega)]
          · refine jt_go jm_m234 26 4 (f' := (53, [(0, .inr (.inr (4, 0, 0))), (1, .inl (nI a)), (2, .inl (y)), (3, .inl (nI b)), (4, .inl (v)), (5, .inl (n))], [.inl (h (4, 0, 3) (nI b).toNatClampNeg)], h)) (P := vp_in (nI b) 8 ∧ True) rfl ⟨(vp_in_nI (by omega) (by decide)), trivial⟩ ?_
            refine jt_ti (show (h (4, 0, 3) (nI b).toNatClampNeg) = nI (s b 0) from jl_holds K (d := b) (nI_clamp (by omega)) (by omega)) ?_
            have bq4 := kw_a Y (d := b) (by omega)
            refine jt_go jm_m234 30 1 (f' := (54, [(0, .inr (.inr (4, 0, 0))), (1, .inl (nI a)), (2, .inl (y)), (3, .inl (nI b)), (4, .inl (v)), (5, .inl (n))], [.inl (nI 2), .inl (nI (s b 0))], h)) (P := True) rfl trivial ?_
            refine jt_nicne jm_m234 31 (a := s b 0) (b := 2) (by omega) (by omega) (tgt := 72) (nxt := 57) rfl rfl rfl (fun c54 => ?_) (fun c54 => ?_)
            · refine jt_go jm_m234 41 1 (f' := (74, [(0, .inr (.inr (4, 0, 0))), (1, .inl (nI a)), (2, .inl (y)), (3, .inl (nI b)), (4, .inl (v)), (5, .inl (n))], [.inl ((-12))], h)) (P := True) rfl trivial ?_
              refine jt_iret jm_m234 42 rfl ?_
              have ng : ¬ cp_ok s a b y v n := fun q => absurd q.2.1 (by omega)
              refine ⟨jt_li ?_, by rw [ze_cno2 ha hb ng]; exact K, jl_fr_rf⟩
              rw [zacp_at ha hb ⟨c4, c11⟩]
              unfold zb_copy
              rw [if_neg (by omega), if_neg (by omega)]
            · refine jt_go jm_m234 32 4 (f' := (63, [(0, .inr (.inr (4, 0, 0))), (1, .inl (nI a)), (2, .inl (y)), (3, .inl (nI b)), (4, .inl (v)), (5, .inl (n))], [.inl (h (4, 0, 6) (nI a).toNatClampNeg)], h)) (P := vp_in (nI a) 8 ∧ True) rfl ⟨(vp_in_nI (by omega) (by decide)), trivial⟩ ?_
              refine jt_ti (show (h (4, 0, 6) (nI a).toNatClampNeg) = nI (s a 3) from jl_sort K (d := a) (nI_clamp (by omega)) (by omega) (by assumption)) ?_
              have bq5 := kw_s Y (d := a) (by omega) (by assumption)
              refine jt_go jm_m234 36 4 (f' := (69, [(0, .inr (.inr (4, 0, 0))), (1, .inl (nI a)), (2, .inl (y)), (3, .inl (nI b)), (4, .inl (v)), (5, .inl (n))], [.inl (h (4, 0, 6) (nI b).toNatClampNeg), .inl (nI (s a 3))], h)) (P := vp_in (nI b) 8 ∧ True) rfl ⟨(vp_in_nI (by omega) (by decide)), trivial⟩ ?_
              refine jt_ti (show (h (4, 0, 6) (nI b).toNatClampNeg) = nI (s b 3) from jl_sort K (d := b) (nI_clamp (by omega)) (by omega) (by assumption)) ?_
              have bq6 := kw_s Y (d := b) (by omega) (by assumption)
              refine jt_niceq jm_m234 40 (a := s a 3) (b := s b 3) (by omega) (by omega) (tgt := 75) (nxt := 72) rfl rfl rfl (fun c69 => ?_) (fun c69 => ?_)
              · refine jt_go jm_m234 43 1 (f' := (77, [(0, .inr (.inr (4, 0, 0))), (1, .inl (nI a)), (2, .inl (y)), (3, .inl (nI b)), (4, .inl (v)), (5, .inl (n))], [.inl (n)], h)) (P := True) rfl trivial ?_
                refine jt_iflt jm_m234 44 (tgt := 116) (nxt := 80) rfl rfl rfl (fun c77 => ?_) (fun c77 => ?_)
                · refine jt_go jm_m234 65 1 (f' := (118, [(0, .inr (.inr (4, 0, 0))), (1, .inl (nI a)), (2, .inl (y)), (3, .inl (nI b)), (4, .inl (v)), (5, .inl (n))], [.inl ((-13))], h)) (P := True) rfl trivial ?_
                  refine jt_iret jm_m234 66 rfl ?_
                  have ng1 : ¬ (cp_st s a y n ∧ cp_st s b v n) := fun z => z.1.2.1 c77
                  have ng : ¬ cp_ok s a b y v n := fun q => ng1 q.2.2
                  refine ⟨jt_li ?_, by rw [ze_cno2 ha hb ng]; exact K, jl_fr_rf⟩
                  rw [zacp_at ha hb ⟨c4, c11⟩]
                  unfold zb_copy
                  rw [if_neg (by omega), if_pos (by omega), if_neg ng1]
                · refine jt_go jm_m234 45 1 (f' := (81, [(0, .inr (.inr (4, 0, 0))), (1, .inl (nI a)), (2, .inl (y)), (3, .inl (nI b)), (4, .inl (v)), (5, .inl (n))], [.inl (y)], h)) (P := True) rfl trivial ?_
                  refine jt_iflt jm_m234 46 (tgt := 116) (nxt := 84) rfl rfl rfl (fun c81 => ?_) (fun c81 => ?_)
                  · refine jt_go jm_m234 65 1 (f' := (118, [(0, .inr (.inr (4, 0, 0))), (1, .inl (nI a)), (2, .inl (y)), (3, .inl (nI b)), (4, .inl (v)), (5, .inl (n))], [.inl ((-13))], h)) (P := True) rfl trivial ?_
                    refine jt_iret jm_m234 66 rfl ?_
                    have ng1 : ¬ (cp_st s a y n ∧ cp_st s b v n) := fun z => z.1.1 c81
                    have ng : ¬ cp_ok s a b y v n := fun q => ng1 q.2.2
                    refine ⟨jt_li ?_, by rw [ze_cno2 ha hb ng]; exact K, jl_fr_rf⟩
                    rw [zacp_at ha hb ⟨c4, c11⟩]
                    unfold zb_copy
                    rw [if_neg (by omega), if_pos (by omega), if_neg ng1]
                  · refine jt_go jm_m234 47 1 (f' := (86, [(0, .inr (.inr (4, 0, 0))), (1, .inl (nI a)), (2, .inl (y)), (3, .inl (nI b)), (4, .inl (v)), (5, .inl (n))], [.inl (v)], h)) (P := True) rfl trivial ?_
                    refine jt_iflt jm_m234 48 (tgt := 116) (nxt := 89) rfl rfl rfl (fun c86 => ?_) (fun c86 => ?_)
                    · refine jt_go jm_m234 65 1 (f' := (118, [(0, .inr (.inr (4, 0, 0))), (1, .inl (nI a)), (2, .inl (y)), (3, .inl (nI b)), (4, .inl (v)), (5, .inl (n))], [.inl ((-13))], h)) (P := True) rfl trivial ?_
                      refine jt_iret jm_m234 66 rfl ?_
                      have ng1 : ¬ (cp_st s a y n ∧ cp_st s b v n) := fun z => z.2.1 c86
                      have ng : ¬ cp_ok s a b y v n := fun q => ng1 q.2.2
                      refine ⟨jt_li ?_, by rw [ze_cno2 ha hb ng]; exact K, jl_fr_rf⟩
                      rw [zacp_at ha hb ⟨c4, c11⟩]
                      unfold zb_copy
                      rw [if_neg (by omega), if_pos (by omega), if_neg ng1]
                    · refine jt_go jm_m234 49 5 (f' := (97, [(0, .inr (.inr (4, 0, 0))), (1, .inl (nI a)), (2, .inl (y)), (3, .inl (nI b)), (4, .inl (v)), (5, .inl (n))], [.inl (h (4, 0, 7) (nI a).toNatClampNeg), .inl (n)], h)) (P := vp_in (nI a) 8 ∧ True) rfl ⟨(vp_in_nI (by omega) (by decide)), trivial⟩ ?_
                      refine jt_ti (show (h (4, 0, 7) (nI a).toNatClampNeg) = nI (s a 4) from jl_size K (d := a) (nI_clamp (by omega)) (by omega) (by assumption)) ?_
                      have bq7 := kw_z Y (d := a) (by omega) (by assumption)
                      refine jt_go jm_m234 54 2 (f' := (99, [(0, .inr (.inr (4, 0, 0))), (1, .inl (nI a)), (2, .inl (y)), (3, .inl (nI b)), (4, .inl (v)), (5, .inl (n))], [.inl ((nI (s a 4)) - y), .inl (n)], h)) (P := True) rfl trivial ?_
                      refine jt_icgt jm_m234 56 (tgt := 116) (nxt := 102) rfl rfl rfl (fun c99 => ?_) (fun c99 => ?_)
                      · refine jt_go jm_m234 65 1 (f' := (118, [(0, .inr (.inr (4, 0, 0))), (1, .inl (nI a)), (2, .inl (y)), (3, .inl (nI b)), (4, .inl (v)), (5, .inl (n))], [.inl ((-13))], h)) (P := True) rfl trivial ?_
                        refine jt_iret jm_m234 66 rfl ?_
                        have ng1 : ¬ (cp_st s a y n ∧ cp_st s b v n) := fun z => z.1.2.2 c99
                        have ng : ¬ cp_ok s a b y v n := fun q => ng1 q.2.2
                        refine ⟨jt_li ?_, by rw [ze_cno2 ha hb ng]; exact K, jl_fr_rf⟩
                        rw [zacp_at ha hb ⟨c4, c11⟩]
                        unfold zb_copy
                        rw [if_neg (by omega), if_pos (by omega), if_neg ng1]
                      · refine jt_go jm_m234 57 5 (f' := (110, [(0, .inr (.inr (4, 0, 0))), (1, .inl (nI a)), (2, .inl (y)), (3, .inl (nI b)), (4, .inl (v)), (5, .inl (n))], [.inl (h (4, 0, 7) (nI b).toNatClampNeg), .inl (n)], h)) (P := vp_in (nI b) 8 ∧ True) rfl ⟨(vp_in_nI (by omega) (by decide)), trivial⟩ ?_
                        refine jt_ti (show (h (4, 0, 7) (nI b).toNatClampNeg) = nI (s b 4) from jl_size K (d := b) (nI_clamp (by omega)) (by omega) (by assumption)) ?_
                        have bq8 := kw_z Y (d := b) (by omega) (by assumption)
                        refine jt_go jm_m234 62 2 (f' := (113, [(0, .inr (.inr (4, 0, 0))), (1, .inl (nI a)), (2, .inl (y)), (3, .inl (nI b)), (4, .inl (v)), (5, .inl (n))], [.inl ((nI (s b 4)) - v), .inl (n)], h)) (P := True) rfl trivial ?_
                        refine jt_icle jm_m234 64 (tgt := 119) (nxt := 116) rfl rfl rfl (fun c113 => ?_) (fun c113 => ?_)
                        · have bza := kw_z Y (d := a) (by omega) (by omega)
                          have bzb := kw_z Y (d := b) (by omega) (by omega)
                          obtain ⟨i, j, m, hi, hj, rfl, rfl, rfl⟩ := cp_nat2 bza bzb c81 c77 c99 c86 c113
                          show jt_T 234 (119, [(0, .inr (.inr (4, 0, 0))), (1, .inl (nI a)), (2, .inl (nI i)), (3, .inl (nI b)), (4, .inl (nI j)), (5, .inl (nI m))], [], h) _
                          refine jt_go jm_m234 67 2 (f' := (122, [(6, .inl (nI 0)), (0, .inr (.inr (4, 0, 0))), (1, .inl (nI a)), (2, .inl (nI i)), (3, .inl (nI b)), (4, .inl (nI j)), (5, .inl (nI m))], [], h)) (P := True) rfl trivial ?_
                          refine jt_pick (L' := [(0, .inr (.inr (4, 0, 0))), (1, .inl (nI a)), (2, .inl (nI i)), (3, .inl (nI b)), (4, .inl (nI j)), (5, .inl (nI m)), (6, .inl (nI 0))]) [1, 2, 3, 4, 5, 6, 0] rfl ?_
                          have st1 : cp_st s a (nI i) (nI m) := ⟨c81, c77, c99⟩
                          have st2 : cp_st s b (nI j) (nI m) := ⟨c86, c77, c113⟩
                          have ok : cp_ok s a b (nI i) (nI j) (nI m) := ⟨by omega, by omega, st1, st2⟩
                          have big : jt_T 234 (122, [(0, .inr (.inr (4, 0, 0))), (1, .inl (nI a)), (2, .inl (nI i)), (3, .inl (nI b)), (4, .inl (nI j)), (5, .inl (nI m)), (6, .inl (nI 0))], [], h) (fun u h' => u = some (.inl (nI m)) ∧ (∀ q, q < m → h' (4, 0, 8) (100 * b + j + q) = h (4, 0, 8) (100 * a + i + q)) ∧ (∀ c, ¬ (100 * b + j ≤ c ∧ c < 100 * b + j + m) → h' (4, 0, 8) c = h (4, 0, 8) c) ∧ ∀ q : jm_K, q ≠ (4, 0, 8) → h' q = h q) := by
                            by_cases hij : j < i
                            · exact cl_copy_f ha hb (by omega) (by omega) hij 0 (Nat.zero_le _) h (fun q hq => absurd hq (Nat.not_lt_zero q)) (fun _ _ => rfl) (fun _ _ => rfl)
                            · exact cl_copy_b ha hb (by omega) (by omega) hij 0 (Nat.zero_le _) h (fun q hl hq => absurd hl (by omega)) (fun _ _ => rfl) (fun _ _ => rfl)
                          refine jt_mono big (fun u h9 zz => ?_)
                          obtain ⟨z0, Z, G, F⟩ := zz
                          refine ⟨z0.trans (jt_li ?_), ?_, fun k hk => F k (fun q => hk (by rw [q]; decide))⟩
                          · rw [zacp_at ha hb ⟨c4, c11⟩]
                            unfold zb_copy
                            rw [if_neg ok.1, if_pos ok.2.1, if_pos ⟨st1, st2⟩]
                          · rw [ze_cat ha hb (by omega) (by omega) ⟨c4, c11⟩ ok]
                            have a3 : h9 (4, 0, 3) = h (4, 0, 3) := F _ (by decide)
                            have a4 : h9 (4, 0, 4) = h (4, 0, 4) := F _ (by decide)
                            have a5 : h9 (4, 0, 5) = h (4, 0, 5) := F _ (by decide)
                            have a6 : h9 (4, 0, 6) = h (4, 0, 6) := F _ (by decide)
                            have a7 : h9 (4, 0, 7) = h (4, 0, 7) := F _ (by decide)
                            refine jl_pute K (fun d2 h2 q w => ?_) ?_
                            · unfold jl_one at w ⊢
                              rw [a3, a4, a5, a6, a7]
                              exact ⟨w.1, w.2.1, fun p => ⟨(w.2.2 p).1, (w.2.2 p).2.1, fun c hc => by rw [G _ (by omega)]; exact (w.2.2 p).2.2 c hc⟩⟩
                            · have w := K b (by omega)
                              have w2 := (K a (by omega)).2.2 (by omega)
                              unfold jl_one at w ⊢
                              rw [a3, a4, a5, a6, a7]
                              refine ⟨w.1, w.2.1, fun p => ⟨(w.2.2 p).1, (w.2.2 p).2.1, fun c hc => ?_⟩⟩
                              by_cases q : j ≤ c ∧ c < j + m
                              · rw [show 100 * b + c = 100 * b + j + (c - j) by omega, Z _ (by omega), show 100 * a + i + (c - j) = 100 * a + (i + (c - j)) by omega]; exact (w2.2.2 _ (by omega)).trans (if_pos q).symm
                              · rw [G _ (by omega)]; exact ((w.2.2 p).2.2 c hc).trans (if_neg q).symm
                        · refine jt_go jm_m234 65 1 (f' := (118, [(0, .inr (.inr (4, 0, 0))), (1, .inl (nI a)), (2, .inl (y)), (3, .inl (nI b)), (4, .inl (v)), (5, .inl (n))], [.inl ((-13))], h)) (P := True) rfl trivial ?_
                          refine jt_iret jm_m234 66 rfl ?_
                          have ng1 : ¬ (cp_st s a y n ∧ cp_st s b v n) := fun z => z.2.2.2 c113
                          have ng : ¬ cp_ok s a b y v n := fun q => ng1 q.2.2
                          refine ⟨jt_li ?_, by rw [ze_cno2 ha hb ng]; exact K, jl_fr_rf⟩
                          rw [zacp_at ha hb ⟨c4, c11⟩]
                          unfold zb_copy
                          rw [if_neg (by omega), if_pos (by omega), if_neg ng1]
              · refine jt_go jm_m234 41 1 (f' := (74, [(0, .inr (.inr (4, 0, 0))), (1, .inl (nI a)), (2, .inl (y)), (3, .inl (nI b)), (4, .inl (v)), (5, .inl (n))], [.inl ((-12))], h)) (P := True) rfl trivial ?_
                refine jt_iret jm_m234 42 rfl ?_
                have ng : ¬ cp_ok s a b y v n := fun q => absurd q.2.1 (by omega)
                refine ⟨jt_li ?_, by rw [ze_cno2 ha hb ng]; exact K, jl_fr_rf⟩
                rw [zacp_at ha hb ⟨c4, c11⟩]
                unfold zb_copy
                rw [if_neg (by omega), if_neg (by omega)]
        · refine jt_go jm_m234 18 1 (f' := (36, [(0, .inr (.inr (4, 0, 0))), (1, .inl (nI a)), (2, .inl (y)), (3, .inl (nI b)), (4, .inl (v)), (5, .inl (n))], [.inl ((-11))], h)) (P := True) rfl trivial ?_
          refine jt_iret jm_m234 19 rfl ?_
          have ng : ¬ cp_ok s a b y v n := fun q => q.1 (by omega)
          refine ⟨jt_li ?_, by rw [ze_cno2 ha hb ng]; exact K, jl_fr_rf⟩
          rw [zacp_at ha hb ⟨c4, c11⟩]
          unfold zb_copy
          rw [if_pos (by omega)]
    · refine jt_go jm_m234 6 1 (f' := (15, [(0, .inr (.inr (4, 0, 0))), (1, .inl (nI a)), (2, .inl (y)), (3, .inl (z)), (4, .inl (v)), (5, .inl (n))], [.inl ((-1))], h)) (P := True) rfl trivial ?_
      refine jt_iret jm_m234 7 rfl ?_
      have ng : ¬ cp_sh (nI a) z := fun q => c11 q.2
      exact ⟨jt_li (if_neg ng).symm, by rw [ze_cno ng]; exact K, jl_fr_rf⟩
