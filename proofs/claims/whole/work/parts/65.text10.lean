/-! TEXT: the reference reads. -/
/-- what the reference finds at p -/
def hv (s : Nat → Nat → Nat) (e : Nat → Nat → Int32) (d p : Nat) : Int32 := if p < s d 4 then e d p &&& nI 255 else (-1)
theorem eb_and : ∀ k : Nat, k < 256 → (k < 128 → (Int32.ofInt ((k : Int) - 128) &&& nI 255) = nI (k + 128)) ∧ (128 ≤ k → (Int32.ofInt ((k : Int) - 128) &&& nI 255) = nI (k - 128)) := by decide +kernel
theorem hv_cs {s : Nat → Nat → Nat} {e : Nat → Nat → Int32} (Y : kw s) (B : ke s e) {d : Nat} (hd : d ≤ 7) (qa : s d 0 = 2) (q3 : s d 3 = 0) (p : Nat) : (∃ c, 0 < c ∧ c < 128 ∧ hv s e d p = nI c ∧ cc s e d p = c) ∨ (cc s e d p = 0 ∧ ∀ k, 0 < k → k < 128 → ¬ hv s e d p = nI k) := by
  by_cases q : p < s d 4
  · have bz := kw_z Y (d := d) (by omega) qa
    have b := B d (by omega) qa q3 p (by omega)
    have e1 : hv s e d p = e d p &&& nI 255 := if_pos q
    have e2 : tg s e d p = e d p := if_pos q
    have ex : ∃ k : Nat, k < 256 ∧ e d p = Int32.ofInt ((k : Int) - 128) := by
      refine ⟨((e d p).toInt + 128).toNat, ?_, ?_⟩
      · have := b.1; have := b.2; omega
      · rw [show ((((e d p).toInt + 128).toNat : Nat) : Int) - 128 = (e d p).toInt by have := b.1; omega]
        exact (Int32.ofInt_toInt _).symm
    obtain ⟨k, hk, ek2⟩ := ex
    have hh := eb_and k hk
    rw [← ek2] at hh
    by_cases c : k < 128
    · refine Or.inr ⟨?_, fun j h0 h1 w => ?_⟩
      · have t : (tg s e d p).toInt < 0 := by
          have : (tg s e d p).toInt = (k : Int) - 128 := by
            rw [e2, ek2, Int32.toInt_ofInt_of_le (by omega) (by omega)]
          omega
        show (tg s e d p).toInt.toNat = 0
        omega
      · rw [e1, hh.1 c] at w
        have := nI_inj (by omega) (by omega) w
        omega
    · have hb := hh.2 (by omega)
      have t : cc s e d p = k - 128 := by
        have : (tg s e d p).toInt = (k : Int) - 128 := by
          rw [e2, ek2, Int32.toInt_ofInt_of_le (by omega) (by omega)]
        show (tg s e d p).toInt.toNat = _
        omega
      by_cases z : k = 128
      · refine Or.inr ⟨by omega, fun j h0 h1 w => ?_⟩
        rw [e1, hb] at w
        have := nI_inj (by omega) (by omega) w
        omega
      · exact Or.inl ⟨k - 128, by omega, by omega, by rw [e1, hb], t⟩
  · refine Or.inr ⟨cc_0 q, fun k h0 h1 w => ?_⟩
    have e1 : hv s e d p = (-1) := if_neg q
    rw [e1] at w
    exact nI_neg (a := k) (by omega) (by rw [← w]; decide)
theorem hv_eq {s : Nat → Nat → Nat} {e : Nat → Nat → Int32} (Y : kw s) (B : ke s e) {d : Nat} (hd : d ≤ 7) (qa : s d 0 = 2) (q3 : s d 3 = 0) {p k : Nat} (h0 : 0 < k) (h1 : k < 128) : hv s e d p = nI k ↔ cc s e d p = k := by
  rcases hv_cs Y B hd qa q3 p with ⟨c, c0, c1, e1, e2⟩ | ⟨e1, e2⟩
  · rw [e1, e2]
    exact ⟨fun z => nI_inj (by omega) (by omega) z, fun z => congrArg nI z⟩
  · exact ⟨fun z => absurd z (e2 k h0 h1), fun z => by omega⟩
theorem hv_dgt {s : Nat → Nat → Nat} {e : Nat → Nat → Int32} (Y : kw s) (B : ke s e) {d : Nat} (hd : d ≤ 7) (qa : s d 0 = 2) (q3 : s d 3 = 0) {p : Nat} : (nI 48 ≤ hv s e d p ∧ hv s e d p ≤ nI 57) ↔ dgt s e d p := by
  constructor
  · intro h
    obtain ⟨c, h1, h2, e1⟩ := jx_win2 (by decide) (by decide) h
    have := (hv_eq Y B hd qa q3 (by omega) (by omega)).mp e1
    exact ⟨by omega, by omega⟩
  · intro h
    have z := h.1
    have w := h.2
    rw [(hv_eq Y B hd qa q3 (k := cc s e d p) (by omega) (by omega)).mpr rfl]
    exact ⟨(nI_leI (by omega) (by omega)).mpr z, (nI_leI (by omega) (by omega)).mpr w⟩
theorem hv_of {s : Nat → Nat → Nat} {e : Nat → Nat → Int32} (Y : kw s) (B : ke s e) {d : Nat} (hd : d ≤ 7) (qa : s d 0 = 2) (q3 : s d 3 = 0) {p : Nat} (h : dgt s e d p) : hv s e d p = nI (cc s e d p) := (hv_eq Y B hd qa q3 (by have := h.1; omega) (by have := h.2; omega)).mpr rfl
/-- where the reference reads; what reading changes -/
def jp_st (h : jm_M) (s : Nat → Nat → Nat) (d p : Nat) : Prop := h (4, 0, 0) 5 = nI p ∧ h (4, 0, 0) 6 = nI (100 * d) ∧ h (4, 0, 0) 7 = nI (s d 4)
def jp_fr (h h2 : jm_M) : Prop := (∀ k : jm_K, k ≠ (4, 0, 0) → k ≠ (4, 0, 1) → h2 k = h k) ∧ ∀ i, i ≠ 5 → h2 (4, 0, 0) i = h (4, 0, 0) i
theorem jp_rf {h : jm_M} : jp_fr h h := ⟨fun _ _ _ => rfl, fun _ _ => rfl⟩
theorem jp_tr {h h2 h3 : jm_M} (a : jp_fr h h2) (b : jp_fr h2 h3) : jp_fr h h3 := ⟨fun k p q => (b.1 k p q).trans (a.1 k p q), fun i p => (b.2 i p).trans (a.2 i p)⟩
theorem jp_n {h h2 : jm_M} (a : jp_fr h h2) {f : Nat → Int32} : jp_fr h (jm_set h2 (4, 0, 1) f) := ⟨fun k p q => (jm_set_ne q).trans (a.1 k p q), fun i p => by rw [jm_set_ne (by decide)]; exact a.2 i p⟩
theorem jp_p {h h2 : jm_M} (a : jp_fr h h2) {x : Int32} : jp_fr h (jm_set h2 (4, 0, 0) (upd (h2 (4, 0, 0)) 5 x)) := ⟨fun k p q => (jm_set_ne p).trans (a.1 k p q), fun i p => by rw [jm_set_eq, jx_ne p]; exact a.2 i p⟩
theorem jp_sn {h : jm_M} {s : Nat → Nat → Nat} {d p : Nat} (J : jp_st h s d p) {f : Nat → Int32} : jp_st (jm_set h (4, 0, 1) f) s d p := by
  unfold jp_st
  rw [jm_set_ne (by decide)]
  exact J
theorem jp_sp {h : jm_M} {s : Nat → Nat → Nat} {d p q : Nat} (J : jp_st h s d p) : jp_st (jm_set h (4, 0, 0) (upd (h (4, 0, 0)) 5 (nI q))) s d q := by
  unfold jp_st
  rw [jm_set_eq, jx_eq, jx_ne (by decide), jx_ne (by decide)]
  exact ⟨rfl, J.2.1, J.2.2⟩
theorem jl_mvp {h h2 : jm_M} {s : Nat → Nat → Nat} {e : Nat → Nat → Int32} (K : jl_rel h s e) (F : jp_fr h h2) : jl_rel h2 s e := jl_mv K (fun k hk => F.1 k (fun z => by rw [z] at hk; exact absurd hk.2 (by decide)) (fun z => by rw [z] at hk; exact absurd hk.2 (by decide)))
theorem jg_mvp {h h2 : jm_M} {a : Nat} {g : Nat → Nat} (R : jg_rel h a g) (F : jp_fr h h2) : jg_rel h2 a g := fun i hi => by
  rw [F.1 (5, a, 0) (fun q => absurd (congrArg (fun z : jm_K => z.1) q) (show ¬ (5 : Nat) = 4 by decide)) (fun q => absurd (congrArg (fun z : jm_K => z.1) q) (show ¬ (5 : Nat) = 4 by decide))]
  exact R i hi
theorem jx_up2 {f : Nat → Int32} {k : Nat} {a b : Int32} : upd (upd f k a) k b = upd f k b := by
  funext i
  unfold upd
  split <;> rfl
abbrev dgs (s : Nat → Nat → Nat) (e : Nat → Nat → Int32) (d p m : Nat) : Prop := ∀ i, i < m → dgt s e d (p + i)
theorem so_cs (o : Option Nat) : o = none ∨ ∃ q, o = some q := by
  cases o with
  | none => exact Or.inl rfl
  | some q => exact Or.inr ⟨q, rfl⟩
set_option maxHeartbeats 4000000 in
set_option maxRecDepth 20000 in
theorem tb_here {h : jm_M} {s : Nat → Nat → Nat} {e : Nat → Nat → Int32} (K : jl_rel h s e) (Y : kw s) (B : ke s e) {d : Nat} (hd : d ≤ 7) (qa : s d 0 = 2) (q3 : s d 3 = 0) {p : Nat} (hp : p ≤ 200) (J : jp_st h s d p)  : jt_Pu 168 [.inr (.inr (4, 0, 0))] h (.inl (hv s e d p)) := by
  have bz := kw_z Y (d := d) (by omega) qa
  show jt_T 168 (0, [(0, .inr (.inr (4, 0, 0)))], [], h) _
  refine jt_go jm_m168 0 2 (f' := (4, [(0, .inr (.inr (4, 0, 0)))], [.inl (h (4, 0, 0) 5)], h)) (P := True) rfl trivial ?_
  refine jt_ti (show (h (4, 0, 0) 5) = nI p from J.1) ?_
  refine jt_go jm_m168 2 2 (f' := (8, [(0, .inr (.inr (4, 0, 0)))], [.inl (h (4, 0, 0) 7), .inl (nI p)], h)) (P := True) rfl trivial ?_
  refine jt_ti (show (h (4, 0, 0) 7) = nI (s d 4) from J.2.2) ?_
  refine jt_nicge jm_m168 4 (a := p) (b := s d 4) (by omega) (by omega) (tgt := 32) (nxt := 11) rfl rfl rfl (fun c8 => ?_) (fun c8 => ?_)
  · refine jt_go jm_m168 16 1 (f' := (33, [(0, .inr (.inr (4, 0, 0)))], [.inl ((-1))], h)) (P := True) rfl trivial ?_
    refine jt_iret jm_m168 17 rfl ?_
    exact ⟨jt_li (if_neg (by omega)).symm, rfl⟩
  · refine jt_go jm_m168 5 4 (f' := (19, [(0, .inr (.inr (4, 0, 0)))], [.inl (h (4, 0, 0) 6), .inr (.inr (4, 0, 8))], h)) (P := True) rfl trivial ?_
    refine jt_ti (show (h (4, 0, 0) 6) = nI (100 * d) from J.2.1) ?_
    refine jt_go jm_m168 9 2 (f' := (23, [(0, .inr (.inr (4, 0, 0)))], [.inl (h (4, 0, 0) 5), .inl (nI (100 * d)), .inr (.inr (4, 0, 8))], h)) (P := True) rfl trivial ?_
    refine jt_ti (show (h (4, 0, 0) 5) = nI p from J.1) ?_
    refine jt_go jm_m168 11 1 (f' := (24, [(0, .inr (.inr (4, 0, 0)))], [.inl ((nI (100 * d)) + (nI p)), .inr (.inr (4, 0, 8))], h)) (P := True) rfl trivial ?_
    refine jt_ti (show ((nI (100 * d)) + (nI p)) = nI (100 * d + p) from nI_add _ _) ?_
    refine jt_go jm_m168 12 1 (f' := (25, [(0, .inr (.inr (4, 0, 0)))], [.inl (h (4, 0, 8) (nI (100 * d + p)).toNatClampNeg)], h)) (P := vp_in (nI (100 * d + p)) 800 ∧ True) rfl ⟨(vp_in_nI (by omega) (by decide)), trivial⟩ ?_
    refine jt_ti (show (h (4, 0, 8) (nI (100 * d + p)).toNatClampNeg) = e d p from jl_cell K (d := d) (i := p) (nI_clamp (by omega)) (by omega) (by assumption) (by omega)) ?_
    refine jt_go jm_m168 13 3 (f' := (33, [(0, .inr (.inr (4, 0, 0)))], [.inl ((e d p) &&& (nI 255))], h)) (P := True) rfl trivial ?_
    refine jt_iret jm_m168 17 rfl ?_
    exact ⟨jt_li (if_pos (by omega)).symm, rfl⟩
set_option maxHeartbeats 4000000 in
set_option maxRecDepth 20000 in
theorem tb_rn_l {h : jm_M} {s : Nat → Nat → Nat} {e : Nat → Nat → Int32} (K : jl_rel h s e) (Y : kw s) (B : ke s e) {d : Nat} (hd : d ≤ 7) (qa : s d 0 = 2) (q3 : s d 3 = 0) {p k m : Nat} (hp : p ≤ 150) (hk2 : k ≤ 2) (hm2 : m ≤ 2)  : ∀ n, n ≤ m → ∀ hm : jm_M, (jl_rel hm s e) → (jp_st hm s d (p + n)) → (hm (4, 0, 1) = upd (h (4, 0, 1)) k (nI (sp_num s e d p n))) → (jp_fr h hm) → (dgs s e d p n) → jt_T 169 (9, [(0, .inr (.inr (4, 0, 0))), (1, .inl (nI k)), (2, .inl (nI m)), (3, .inl (nI n))], [], hm) (fun u h' => u = some (.inl (jm_b (dgs s e d p m))) ∧ jp_fr h h' ∧ (dgs s e d p m → jp_st h' s d (p + m) ∧ h' (4, 0, 1) = upd (h (4, 0, 1)) k (nI (sp_num s e d p m))) ∧ (¬ dgs s e d p m → ∃ i, i < m ∧ dgs s e d p i ∧ ¬ dgt s e d (p + i) ∧ jp_st h' s d (p + i))) := jx_up (P := fun n => ∀ hm : jm_M, (jl_rel hm s e) → (jp_st hm s d (p + n)) → (hm (4, 0, 1) = upd (h (4, 0, 1)) k (nI (sp_num s e d p n))) → (jp_fr h hm) → (dgs s e d p n) → jt_T 169 (9, [(0, .inr (.inr (4, 0, 0))), (1, .inl (nI k)), (2, .inl (nI m)), (3, .inl (nI n))], [], hm) (fun u h' => u = some (.inl (jm_b (dgs s e d p m))) ∧ jp_fr h h' ∧ (dgs s e d p m → jp_st h' s d (p + m) ∧ h' (4, 0, 1) = upd (h (4, 0, 1)) k (nI (sp_num s e d p m))) ∧ (¬ dgs s e d p m → ∃ i, i < m ∧ dgs s e d p i ∧ ¬ dgt s e d (p + i) ∧ jp_st h' s d (p + i)))) (fun n hk nx hm K2 Jm Nm Fm A => by
  have bnn := sp_num_lt (s := s) (e := e) (d := d) (p := p) n A
  have b10 : 10 ^ n ≤ 10 ^ 2 := Nat.pow_le_pow_right (by decide) (by omega)
  have bz := kw_z Y (d := d) (by omega) qa
  refine jt_go jm_m169 7 2 (f' := (11, [(0, .inr (.inr (4, 0, 0))), (1, .inl (nI k)), (2, .inl (nI m)), (3, .inl (nI n))], [.inl (nI m), .inl (nI n)], hm)) (P := True) rfl trivial ?_
  refine jt_nicge jm_m169 9 (a := n) (b := m) (by omega) (by omega) (tgt := 69) (nxt := 14) rfl rfl rfl (fun c11 => ?_) (fun c11 => ?_)
  · refine jt_go jm_m169 41 1 (f' := (70, [(0, .inr (.inr (4, 0, 0))), (1, .inl (nI k)), (2, .inl (nI m)), (3, .inl (nI n))], [.inl (nI 1)], hm)) (P := True) rfl trivial ?_
    refine jt_zret jm_m169 42 rfl (Or.inr rfl) ?_
    have en : n = m := by omega
    subst en
    exact ⟨jt_lb1 A, Fm, fun _ => ⟨Jm, Nm⟩, fun z => absurd A z⟩
  · refine jt_go jm_m169 10 1 (f' := (15, [(0, .inr (.inr (4, 0, 0))), (1, .inl (nI k)), (2, .inl (nI m)), (3, .inl (nI n))], [.inr (.inr (4, 0, 0))], hm)) (P := True) rfl trivial ?_
    refine jt_callp (w := .inl (hv s e d (p + n))) jm_m169 11 (mi' := 168) (as := [.inr (.inr (4, 0, 0))]) (rest := []) (nxt := 18) rfl rfl jm_m168 rfl rfl (tb_here K2 Y B hd qa q3 (by omega) Jm) ?_
    refine jt_go jm_m169 12 2 (f' := (22, [(0, .inr (.inr (4, 0, 0))), (1, .inl (nI k)), (2, .inl (nI m)), (3, .inl (nI n))], [.inl (nI 57), .inl (nI 48), .inl (hv s e d (p + n))], hm)) (P := True) rfl trivial ?_
    refine jt_callp (w := .inl (jm_b (nI 48 ≤ (hv s e d (p + n)) ∧ (hv s e d (p + n)) ≤ nI 57))) jm_m169 14 (mi' := 143) (as := [.inl (hv s e d (p + n)), .inl (nI 48), .inl (nI 57)]) (rest := []) (nxt := 25) rfl rfl jm_m143 rfl rfl (tb_isIn) ?_
    refine jt_ifbne jm_m169 15 (tgt := 30) (nxt := 28) rfl rfl rfl (fun c25 => ?_) (fun c25 => ?_)
    · have dd : dgt s e d (p + n) := (hv_dgt Y B hd qa q3).mp c25
      have hve := hv_of Y B hd qa q3 dd
      have := dd.1
      have := dd.2
      refine jt_go jm_m169 18 8 (f' := (43, [(0, .inr (.inr (4, 0, 0))), (1, .inl (nI k)), (2, .inl (nI m)), (3, .inl (nI n))], [.inl (hm (4, 0, 1) (nI k).toNatClampNeg), .inl (nI 10), .inl (nI k), .inr (.inr (4, 0, 1))], hm)) (P := vp_in (nI k) 3 ∧ True) rfl ⟨(vp_in_nI (by omega) (by decide)), trivial⟩ ?_
      refine jt_ti (show (hm (4, 0, 1) (nI k).toNatClampNeg) = nI (sp_num s e d p n) from by rw [nI_clamp (by omega), Nm]; exact jx_eq _ _ _) ?_
      refine jt_go jm_m169 26 1 (f' := (44, [(0, .inr (.inr (4, 0, 0))), (1, .inl (nI k)), (2, .inl (nI m)), (3, .inl (nI n))], [.inl ((nI 10) * (nI (sp_num s e d p n))), .inl (nI k), .inr (.inr (4, 0, 1))], hm)) (P := True) rfl trivial ?_
      refine jt_ti (show ((nI 10) * (nI (sp_num s e d p n))) = nI (10 * (sp_num s e d p n)) from nI_mul _ _) ?_
      refine jt_go jm_m169 27 1 (f' := (45, [(0, .inr (.inr (4, 0, 0))), (1, .inl (nI k)), (2, .inl (nI m)), (3, .inl (nI n))], [.inr (.inr (4, 0, 0)), .inl (nI (10 * (sp_num s e d p n))), .inl (nI k), .inr (.inr (4, 0, 1))], hm)) (P := True) rfl trivial ?_
      refine jt_callp (w := .inl (nI (cc s e d (p + n)))) jm_m169 28 (mi' := 168) (as := [.inr (.inr (4, 0, 0))]) (rest := [.inl (nI (10 * (sp_num s e d p n))), .inl (nI k), .inr (.inr (4, 0, 1))]) (nxt := 48) rfl rfl jm_m168 rfl rfl (by rw [← hve]; exact tb_here K2 Y B hd qa q3 (by omega) Jm) ?_
      refine jt_go jm_m169 29 1 (f' := (49, [(0, .inr (.inr (4, 0, 0))), (1, .inl (nI k)), (2, .inl (nI m)), (3, .inl (nI n))], [.inl ((nI (10 * (sp_num s e d p n))) + (nI (cc s e d (p + n)))), .inl (nI k), .inr (.inr (4, 0, 1))], hm)) (P := True) rfl trivial ?_
      refine jt_ti (show ((nI (10 * (sp_num s e d p n))) + (nI (cc s e d (p + n)))) = nI (10 * (sp_num s e d p n) + (cc s e d (p + n))) from nI_add _ _) ?_
      refine jt_go jm_m169 30 2 (f' := (52, [(0, .inr (.inr (4, 0, 0))), (1, .inl (nI k)), (2, .inl (nI m)), (3, .inl (nI n))], [.inl ((nI (10 * (sp_num s e d p n) + (cc s e d (p + n)))) - (nI 48)), .inl (nI k), .inr (.inr (4, 0, 1))], hm)) (P := True) rfl trivial ?_
      refine jt_ti (show ((nI (10 * (sp_num s e d p n) + (cc s e d (p + n)))) - (nI 48)) = nI (10 * sp_num s e d p n + cc s e d (p + n) - 48) from nI_subN (by omega)) ?_
      refine jt_goM jm_m169 32 1 (pc' := 53) (L' := [(0, .inr (.inr (4, 0, 0))), (1, .inl (nI k)), (2, .inl (nI m)), (3, .inl (nI n))]) (st' := []) (m' := jm_set hm (4, 0, 1) (upd (hm (4, 0, 1)) (nI k).toNatClampNeg (nI (10 * sp_num s e d p n + cc s e d (p + n) - 48)))) (P := vp_in (nI k) 3 ∧ True) rfl ⟨(vp_in_nI (by omega) (by decide)), trivial⟩ (fun h1 eh1 => ?_)
      have Fh1 : jp_fr h h1 := by rw [eh1]; exact jp_n Fm
      have Jh1 : jp_st h1 s d (p + n) := by rw [eh1]; exact jp_sn Jm
      have Nh1 : h1 (4, 0, 1) = upd (h (4, 0, 1)) k (nI (10 * sp_num s e d p n + cc s e d (p + n) - 48)) := by rw [eh1, jm_set_eq, nI_clamp (by omega), Nm]; exact jx_up2
      have Kh1 := jl_mvp K Fh1
      refine jt_go jm_m169 33 3 (f' := (58, [(0, .inr (.inr (4, 0, 0))), (1, .inl (nI k)), (2, .inl (nI m)), (3, .inl (nI n))], [.inl (h1 (4, 0, 0) 5), .inr (.inr (4, 0, 0))], h1)) (P := True) rfl trivial ?_
      refine jt_ti (show (h1 (4, 0, 0) 5) = nI (p + n) from Jh1.1) ?_
      refine jt_go jm_m169 36 2 (f' := (60, [(0, .inr (.inr (4, 0, 0))), (1, .inl (nI k)), (2, .inl (nI m)), (3, .inl (nI n))], [.inl ((nI (p + n)) + (nI 1)), .inr (.inr (4, 0, 0))], h1)) (P := True) rfl trivial ?_
      refine jt_ti (show ((nI (p + n)) + (nI 1)) = nI (p + n + 1) from nI_add _ _) ?_
      refine jt_goM jm_m169 38 1 (pc' := 63) (L' := [(0, .inr (.inr (4, 0, 0))), (1, .inl (nI k)), (2, .inl (nI m)), (3, .inl (nI n))]) (st' := []) (m' := jm_set h1 (4, 0, 0) (upd (h1 (4, 0, 0)) 5 (nI (p + n + 1)))) (P := True) rfl trivial (fun h2 eh2 => ?_)
      have Fh2 : jp_fr h h2 := by rw [eh2]; exact jp_p Fh1
      have Jh2 : jp_st h2 s d (p + n + 1) := by rw [eh2]; exact jp_sp Jh1
      have Nh2 : h2 (4, 0, 1) = upd (h (4, 0, 1)) k (nI (10 * sp_num s e d p n + cc s e d (p + n) - 48)) := by rw [eh2, jm_set_ne (by decide)]; exact Nh1
      have Kh2 := jl_mvp K Fh2
      refine jt_inc jm_m169 39 (c := n) (L' := [(3, .inl (nI (n + 1))), (0, .inr (.inr (4, 0, 0))), (1, .inl (nI k)), (2, .inl (nI m))]) rfl rfl rfl rfl ?_
      refine jt_go jm_m169 40 1 (f' := (9, [(3, .inl (nI (n + 1))), (0, .inr (.inr (4, 0, 0))), (1, .inl (nI k)), (2, .inl (nI m))], [], h2)) (P := True) rfl trivial ?_
      refine jt_pick (L' := [(0, .inr (.inr (4, 0, 0))), (1, .inl (nI k)), (2, .inl (nI m)), (3, .inl (nI (n + 1)))]) [1, 2, 3, 0] rfl ?_
      exact nx (by omega) h2 Kh2 Jh2 Nh2 Fh2 (fun i hi => by
        by_cases z : i = n
        · subst z; exact dd
        · exact A i (by omega))
    · refine jt_go jm_m169 16 1 (f' := (29, [(0, .inr (.inr (4, 0, 0))), (1, .inl (nI k)), (2, .inl (nI m)), (3, .inl (nI n))], [.inl (nI 0)], hm)) (P := True) rfl trivial ?_
      refine jt_zret jm_m169 17 rfl (Or.inl rfl) ?_
      have nd : ¬ dgs s e d p m := fun z => c25 ((hv_dgt Y B hd qa q3).mpr (z n (by omega)))
      exact ⟨jt_lb0 nd, Fm, fun z => absurd z nd, fun _ => ⟨n, by omega, A, fun z => c25 ((hv_dgt Y B hd qa q3).mpr z), Jm⟩⟩)
set_option maxHeartbeats 4000000 in
set_option maxRecDepth 20000 in
theorem tb_rn {h : jm_M} {s : Nat → Nat → Nat} {e : Nat → Nat → Int32} (K : jl_rel h s e) (Y : kw s) (B : ke s e) {d : Nat} (hd : d ≤ 7) (qa : s d 0 = 2) (q3 : s d 3 = 0) {p k m : Nat} (hp : p ≤ 150) (hk2 : k ≤ 2) (hm2 : m ≤ 2) (J : jp_st h s d p)  : jt_T 169 (0, [(0, .inr (.inr (4, 0, 0))), (1, .inl (nI k)), (2, .inl (nI m))], [], h) (fun u h' => u = some (.inl (jm_b (dgs s e d p m))) ∧ jp_fr h h' ∧ (dgs s e d p m → jp_st h' s d (p + m) ∧ h' (4, 0, 1) = upd (h (4, 0, 1)) k (nI (sp_num s e d p m))) ∧ (¬ dgs s e d p m → ∃ i, i < m ∧ dgs s e d p i ∧ ¬ dgt s e d (p + i) ∧ jp_st h' s d (p + i))) := by
  have bz := kw_z Y (d := d) (by omega) qa
  refine jt_goM jm_m169 0 5 (pc' := 7) (L' := [(0, .inr (.inr (4, 0, 0))), (1, .inl (nI k)), (2, .inl (nI m))]) (st' := []) (m' := jm_set h (4, 0, 1) (upd (h (4, 0, 1)) (nI k).toNatClampNeg (nI 0))) (P := vp_in (nI k) 3 ∧ True) rfl ⟨(vp_in_nI (by omega) (by decide)), trivial⟩ (fun h1 eh1 => ?_)
  have Fh1 : jp_fr h h1 := by rw [eh1]; exact jp_n jp_rf
  have Jh1 : jp_st h1 s d (p) := by rw [eh1]; exact jp_sn J
  have Nh1 : h1 (4, 0, 1) = upd (h (4, 0, 1)) k (nI 0) := by rw [eh1, jm_set_eq, nI_clamp (by omega), show h (4, 0, 1) = h (4, 0, 1) from rfl]
  have Kh1 := jl_mvp K Fh1
  refine jt_go jm_m169 5 2 (f' := (9, [(3, .inl (nI 0)), (0, .inr (.inr (4, 0, 0))), (1, .inl (nI k)), (2, .inl (nI m))], [], h1)) (P := True) rfl trivial ?_
  refine jt_pick (L' := [(0, .inr (.inr (4, 0, 0))), (1, .inl (nI k)), (2, .inl (nI m)), (3, .inl (nI 0))]) [1, 2, 3, 0] rfl ?_
  exact tb_rn_l K Y B hd qa q3 hp hk2 hm2 0 (Nat.zero_le _) h1 Kh1 Jh1 Nh1 Fh1 (fun i hi => absurd hi (by omega))
