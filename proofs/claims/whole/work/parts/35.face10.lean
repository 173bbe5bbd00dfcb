/-! THE FACE: nights by seeds. -/
theorem jx_div {a b : Nat} (ha : a < 2 ^ 31) (hb : b < 2 ^ 31) : nI a / nI b = nI (a / b) := by
  have hq : a / b < 2 ^ 31 := Nat.lt_of_le_of_lt (Nat.div_le_self _ _) ha
  apply Int32.toInt_inj.mp
  rw [Int32.toInt_div, nI_toInt ha, nI_toInt hb, nI_toInt hq, ← Int.ofNat_tdiv]
  generalize a / b = q at hq ⊢
  exact Int.bmod_eq_of_le (by omega) (by omega)
theorem jx_rem {a b : Nat} (ha : a < 2 ^ 31) (hb : b < 2 ^ 31) : nI a - nI a / nI b * nI b = nI (a % b) := by
  rw [jx_div ha hb, nI_mul, nI_subN (Nat.div_mul_le_self a b)]
  congr 1
  have := Nat.div_add_mod a b
  rw [Nat.mul_comm] at this
  omega
theorem jx_pos (s : Int32) : ¬ (s &&& nI 2147483647) < 0 := by
  have h : (nI 2147483647).toBitVec = 2147483647#32 := by decide +kernel
  intro z
  have z2 := Int32.lt_iff_toInt_lt.mp z
  have h0 : (0 : Int32).toInt = 0 := by decide
  rw [h0] at z2
  have e : (s &&& nI 2147483647).toInt = (s.toBitVec &&& 2147483647#32).toInt := by
    rw [← h]; rfl
  rw [e] at z2
  have m : (s.toBitVec &&& 2147483647#32).msb = false := by
    rw [BitVec.msb_and]
    have : (2147483647#32).msb = false := by decide +kernel
    rw [this, Bool.and_false]
  have := BitVec.toInt_eq_toNat_of_msb m
  omega
def sp_ns (s : Int32) : Int32 := s * nI 1103515245 + nI 12345
def sp_dr (s : Int32) : Nat := (s &&& nI 2147483647).toNatClampNeg / 65536 % 16
theorem sp_dr_lt (s : Int32) : sp_dr s < 16 := Nat.mod_lt _ (by decide)
theorem sp_dr_eq (s : Int32) : (s &&& nI 2147483647) / nI 65536 - (s &&& nI 2147483647) / nI 65536 / nI 16 * nI 16 = nI (sp_dr s) := by
  obtain ⟨m, hm, e⟩ := nI_of (jx_pos s)
  unfold sp_dr
  rw [e, nI_clamp hm, jx_div hm (by decide), jx_rem (by omega) (by decide)]
/-- the cats where the seed puts them, and the seed behind -/
def sp_ng (g : Nat → Nat) (s : Int32) : Nat → (Nat → Nat) × Int32
  | 0 => (g, s)
  | c + 1 => (sp_up (sp_ng g s c).1 (38 + 5 * c) (sp_dr (sp_ns (sp_ng g s c).2)), sp_ns (sp_ng g s c).2)
theorem jw_ng {g : Nat → Nat} (W : jw g) (s : Int32) : ∀ c, c ≤ g 0 → jw (sp_ng g s c).1 ∧ (sp_ng g s c).1 0 = g 0 := by
  have hn := jw_n W
  intro c
  induction c with
  | zero => intro _; exact ⟨W, rfl⟩
  | succ c ih =>
    intro hc
    have h1 := ih (by omega)
    exact ⟨jw_up_at h1.1 (by omega) (sp_dr_lt _), (sp_up_ne (by omega)).trans h1.2⟩
def sp_sk (g : Nat → Nat) (z : Int32) : Nat → Int32
  | 0 => z
  | k + 1 => (sp_ng g (sp_sk g z k) (g 0)).2
def sp_nw (m : Nat) (g : Nat → Nat) (z : Int32) (k : Nat) : Nat → Nat := sp_it (sp_ng g (sp_sk g z k) (g 0)).1 m
def sp_pm (m : Nat) (g : Nat → Nat) (z : Int32) (k : Nat) : Int32 := nI (sp_cnt (sp_pb (sp_nw m g z k))) - nI (sp_cnt (sp_pb g))
def sp_os (m : Nat) (g : Nat → Nat) (z : Int32) (k : Nat) : Int32 := nI (sp_sum (fun c => sp_sd (sp_nw m g z k (38 + 5 * c))) (sp_nw m g z k 0))
def sp_acc (f : Nat → Int32) : Nat → Int32
  | 0 => nI 0
  | k + 1 => sp_acc f k + f k
/-- all but what the reference takes for its own counting is as it was -/
def jo_fr (h h2 : jm_M) : Prop := (∀ k : jm_K, k ≠ (5, 1, 0) → k ≠ (5, 3, 0) → k ≠ (4, 0, 0) → k ≠ (4, 0, 1) → k ≠ (4, 0, 2) → h2 k = h k) ∧ h2 (4, 0, 0) 4 = h (4, 0, 0) 4
theorem jo_rf {h : jm_M} : jo_fr h h := ⟨fun _ _ _ _ _ _ => rfl, rfl⟩
theorem jo_tr {h h2 h3 : jm_M} (a : jo_fr h h2) (b : jo_fr h2 h3) : jo_fr h h3 := ⟨fun k a1 a2 a3 a4 a5 => (b.1 k a1 a2 a3 a4 a5).trans (a.1 k a1 a2 a3 a4 a5), b.2.trans a.2⟩
theorem jo_of {h h2 : jm_M} (a : jg_fr 1 h h2) : jo_fr h h2 := ⟨fun k a1 _ _ _ _ => a k a1, congrFun (a (4, 0, 0) (by decide)) 4⟩
theorem jo_mov {h h2 : jm_M} {g : Nat → Nat} (R : jg_rel h 0 g) (F : jo_fr h h2) : jg_rel h2 0 g := fun i hi => by rw [F.1 (5, 0, 0) (by decide) (by decide) (by decide) (by decide) (by decide)]; exact R i hi
theorem jo_slot {h : jm_M} {k : Nat} {x : Int32} (hk : 4 ≠ k) : jo_fr h (jm_set h (4, 0, 0) (upd (h (4, 0, 0)) k x)) := ⟨fun q _ _ a3 _ _ => jm_set_ne a3, by rw [jm_set_eq, jx_ne hk]⟩
set_option maxHeartbeats 4000000 in
set_option maxRecDepth 20000 in
theorem ta_ns {h : jm_M} {s : Int32} : jt_Pu 122 [.inl (s)] h (.inl (sp_ns s)) := by
  show jt_T 122 (0, [(0, .inl (s))], [], h) _
  refine jt_go jm_m122 0 5 (f' := (9, [(0, .inl (s))], [.inl ((s * (nI 1103515245)) + (nI 12345))], h)) (P := True) rfl trivial ?_
  refine jt_iret jm_m122 5 rfl ?_
  exact ⟨rfl, rfl⟩
set_option maxHeartbeats 4000000 in
set_option maxRecDepth 20000 in
theorem ta_dr {h : jm_M} {s : Int32} : jt_Pu 123 [.inl (s)] h (.inl (nI (sp_dr s))) := by
  show jt_T 123 (0, [(0, .inl (s))], [], h) _
  refine jt_go jm_m123 0 7 (f' := (12, [(0, .inl (s))], [.inl (((s &&& (nI 2147483647)) / (nI 65536)) - ((s &&& (nI 2147483647)) / (nI 65536)) / (nI 16) * (nI 16))], h)) (P := ¬ (nI 65536) = 0 ∧ ¬ (nI 16) = 0 ∧ True) rfl ⟨(by decide), (by decide), trivial⟩ ?_
  refine jt_ti (show (((s &&& (nI 2147483647)) / (nI 65536)) - ((s &&& (nI 2147483647)) / (nI 65536)) / (nI 16) * (nI 16)) = nI (sp_dr s) from sp_dr_eq s) ?_
  refine jt_iret jm_m123 7 rfl ?_
  exact ⟨rfl, rfl⟩
set_option maxHeartbeats 4000000 in
set_option maxRecDepth 20000 in
theorem ca_ng_i {h : jm_M} {g : Nat → Nat} {Q : Option jm_V → jm_M → Prop} (W : jw g) {n w k : Nat} {z s A B : Int32} (hend : ∀ h2, jf_rel h2 1 (sp_ng g s (g 0)).1 → jf_fr 1 h h2 → jt_T 121 (93, [(0, .inr (.inr (0, 0, 0))), (1, .inl (nI n)), (2, .inl (z)), (3, .inl (nI w)), (4, .inl ((sp_ng g s (g 0)).2)), (5, .inl (A)), (6, .inl (B)), (7, .inl (nI k)), (8, .inl (nI (g 0)))], [], h2) Q) : ∀ c, c ≤ g 0 → ∀ hm : jm_M, jf_rel hm 1 (sp_ng g s c).1 → jf_fr 1 h hm → jt_T 121 (53, [(0, .inr (.inr (0, 0, 0))), (1, .inl (nI n)), (2, .inl (z)), (3, .inl (nI w)), (4, .inl ((sp_ng g s c).2)), (5, .inl (A)), (6, .inl (B)), (7, .inl (nI k)), (8, .inl (nI c))], [], hm) Q := jx_up (P := fun c => ∀ hm : jm_M, jf_rel hm 1 (sp_ng g s c).1 → jf_fr 1 h hm → jt_T 121 (53, [(0, .inr (.inr (0, 0, 0))), (1, .inl (nI n)), (2, .inl (z)), (3, .inl (nI w)), (4, .inl ((sp_ng g s c).2)), (5, .inl (A)), (6, .inl (B)), (7, .inl (nI k)), (8, .inl (nI c))], [], hm) Q) (fun c hk nx hm Rm Fm => by
  have bn := jw_n W
  have wc := jw_ng W s c hk
  have Wc := wc.1
  have e0 := wc.2
  refine jt_go jm_m121 30 4 (f' := (62, [(0, .inr (.inr (0, 0, 0))), (1, .inl (nI n)), (2, .inl (z)), (3, .inl (nI w)), (4, .inl ((sp_ng g s c).2)), (5, .inl (A)), (6, .inl (B)), (7, .inl (nI k)), (8, .inl (nI c))], [.inl (hm (2, 1, 0) 9), .inl (nI c)], hm)) (P := True) rfl trivial ?_
  refine jt_ti (show (hm (2, 1, 0) 9) = nI (((sp_ng g s c).1) 0) from jf_cats Rm) ?_
  have bq1 := jw_n Wc
  refine jt_nicge jm_m121 34 (a := c) (b := ((sp_ng g s c).1) 0) (by omega) (by omega) (tgt := 93) (nxt := 65) rfl rfl rfl (fun c62 => ?_) (fun c62 => ?_)
  · refine jt_pick (L' := [(0, .inr (.inr (0, 0, 0))), (1, .inl (nI n)), (2, .inl (z)), (3, .inl (nI w)), (4, .inl ((sp_ng g s c).2)), (5, .inl (A)), (6, .inl (B)), (7, .inl (nI k)), (8, .inl (nI c))]) [0, 1, 2, 3, 4, 5, 6, 7, 8] rfl ?_
    have e : c = g 0 := by omega
    subst e
    exact hend hm Rm Fm
  · refine jt_go jm_m121 35 1 (f' := (67, [(0, .inr (.inr (0, 0, 0))), (1, .inl (nI n)), (2, .inl (z)), (3, .inl (nI w)), (4, .inl ((sp_ng g s c).2)), (5, .inl (A)), (6, .inl (B)), (7, .inl (nI k)), (8, .inl (nI c))], [.inl ((sp_ng g s c).2)], hm)) (P := True) rfl trivial ?_
    refine jt_callp (w := .inl (sp_ns ((sp_ng g s c).2))) jm_m121 36 (mi' := 122) (as := [.inl ((sp_ng g s c).2)]) (rest := []) (nxt := 70) rfl rfl jm_m122 rfl rfl (ta_ns) ?_
    refine jt_go jm_m121 37 6 (f' := (83, [(4, .inl (sp_ns ((sp_ng g s c).2))), (0, .inr (.inr (0, 0, 0))), (1, .inl (nI n)), (2, .inl (z)), (3, .inl (nI w)), (5, .inl (A)), (6, .inl (B)), (7, .inl (nI k)), (8, .inl (nI c))], [.inl (sp_ns ((sp_ng g s c).2)), .inl (nI c), .inr (.inr (2, 1, 3))], hm)) (P := True) rfl trivial ?_
    refine jt_callp (w := .inl (nI (sp_dr (sp_ns ((sp_ng g s c).2))))) jm_m121 43 (mi' := 123) (as := [.inl (sp_ns ((sp_ng g s c).2))]) (rest := [.inl (nI c), .inr (.inr (2, 1, 3))]) (nxt := 86) rfl rfl jm_m123 rfl rfl (ta_dr) ?_
    have bd := sp_dr_lt (sp_ns ((sp_ng g s c).2))
    refine jt_goM jm_m121 44 1 (pc' := 87) (L' := [(4, .inl (sp_ns ((sp_ng g s c).2))), (0, .inr (.inr (0, 0, 0))), (1, .inl (nI n)), (2, .inl (z)), (3, .inl (nI w)), (5, .inl (A)), (6, .inl (B)), (7, .inl (nI k)), (8, .inl (nI c))]) (st' := []) (m' := jm_set hm (2, 1, 3) (upd (hm (2, 1, 3)) (nI c).toNatClampNeg (nI (sp_dr (sp_ns ((sp_ng g s c).2)))))) (P := vp_in (nI c) 6 ∧ True) rfl ⟨(vp_in_nI (by omega) (by decide)), trivial⟩ (fun h1 eh1 => ?_)
    have Rh1 : jf_rel h1 1 (sp_ng g s (c + 1)).1 := by rw [eh1]; exact jf_set_at Rm (c := c) (w := sp_dr (sp_ns (sp_ng g s c).2)) (nI_clamp (by omega)) (by omega) rfl
    have Fh1 : jf_fr 1 h h1 := by rw [eh1]; exact jf_fr_set Fm ⟨Or.inl rfl, rfl⟩
    refine jt_inc jm_m121 45 (c := c) (L' := [(8, .inl (nI (c + 1))), (4, .inl (sp_ns ((sp_ng g s c).2))), (0, .inr (.inr (0, 0, 0))), (1, .inl (nI n)), (2, .inl (z)), (3, .inl (nI w)), (5, .inl (A)), (6, .inl (B)), (7, .inl (nI k))]) rfl rfl rfl rfl ?_
    refine jt_go jm_m121 46 1 (f' := (53, [(8, .inl (nI (c + 1))), (4, .inl (sp_ns ((sp_ng g s c).2))), (0, .inr (.inr (0, 0, 0))), (1, .inl (nI n)), (2, .inl (z)), (3, .inl (nI w)), (5, .inl (A)), (6, .inl (B)), (7, .inl (nI k))], [], h1)) (P := True) rfl trivial ?_
    refine jt_pick (L' := [(0, .inr (.inr (0, 0, 0))), (1, .inl (nI n)), (2, .inl (z)), (3, .inl (nI w)), (4, .inl (sp_ns ((sp_ng g s c).2))), (5, .inl (A)), (6, .inl (B)), (7, .inl (nI k)), (8, .inl (nI (c + 1)))]) [2, 3, 4, 5, 1, 6, 7, 8, 0] rfl ?_
    exact nx (by omega) h1 Rh1 Fh1)
set_option maxHeartbeats 4000000 in
set_option maxRecDepth 20000 in
theorem ca_nights_l {h : jm_M} {g : Nat → Nat} (W : jw g) {n w m : Nat} {z : Int32} (hnn : n ≤ 20) (hw : w ≤ 1) (hmm : m = 10) : ∀ k, k ≤ n → ∀ hm : jm_M, (jf_rel hm 0 g) → (jf_fr 1 h hm) → jt_T 121 (33, [(0, .inr (.inr (0, 0, 0))), (1, .inl (nI n)), (2, .inl (z)), (3, .inl (nI w)), (4, .inl (sp_sk g z k)), (5, .inl (sp_acc (sp_pm m g z) k)), (6, .inl (sp_acc (sp_os m g z) k)), (7, .inl (nI k))], [], hm) (fun u h' => u = some (.inl (if w = 0 then sp_acc (sp_pm m g z) n else sp_acc (sp_os m g z) n)) ∧ jf_fr 1 h h') := jx_up (P := fun k => ∀ hm : jm_M, (jf_rel hm 0 g) → (jf_fr 1 h hm) → jt_T 121 (33, [(0, .inr (.inr (0, 0, 0))), (1, .inl (nI n)), (2, .inl (z)), (3, .inl (nI w)), (4, .inl (sp_sk g z k)), (5, .inl (sp_acc (sp_pm m g z) k)), (6, .inl (sp_acc (sp_os m g z) k)), (7, .inl (nI k))], [], hm) (fun u h' => u = some (.inl (if w = 0 then sp_acc (sp_pm m g z) n else sp_acc (sp_os m g z) n)) ∧ jf_fr 1 h h')) (fun k hk nx hm Zm Fm => by
  have bn := jw_n W
  have bm := jw_m W
  have bt := jw_t W
  refine jt_go jm_m121 20 2 (f' := (36, [(0, .inr (.inr (0, 0, 0))), (1, .inl (nI n)), (2, .inl (z)), (3, .inl (nI w)), (4, .inl (sp_sk g z k)), (5, .inl (sp_acc (sp_pm m g z) k)), (6, .inl (sp_acc (sp_os m g z) k)), (7, .inl (nI k))], [.inl (nI n), .inl (nI k)], hm)) (P := True) rfl trivial ?_
  refine jt_nicge jm_m121 22 (a := k) (b := n) (by omega) (by omega) (tgt := 146) (nxt := 39) rfl rfl rfl (fun c36 => ?_) (fun c36 => ?_)
  · refine jt_go jm_m121 71 1 (f' := (147, [(0, .inr (.inr (0, 0, 0))), (1, .inl (nI n)), (2, .inl (z)), (3, .inl (nI w)), (4, .inl (sp_sk g z k)), (5, .inl (sp_acc (sp_pm m g z) k)), (6, .inl (sp_acc (sp_os m g z) k)), (7, .inl (nI k))], [.inl (nI w)], hm)) (P := True) rfl trivial ?_
    refine jt_nifne jm_m121 72 (by omega) (tgt := 155) (nxt := 150) rfl rfl rfl (fun c147 => ?_) (fun c147 => ?_)
    · refine jt_go jm_m121 75 1 (f' := (157, [(0, .inr (.inr (0, 0, 0))), (1, .inl (nI n)), (2, .inl (z)), (3, .inl (nI w)), (4, .inl (sp_sk g z k)), (5, .inl (sp_acc (sp_pm m g z) k)), (6, .inl (sp_acc (sp_os m g z) k)), (7, .inl (nI k))], [.inl (sp_acc (sp_os m g z) k)], hm)) (P := True) rfl trivial ?_
      refine jt_iret jm_m121 76 rfl ?_
      have e : k = n := by omega
      subst e
      exact ⟨jt_li (by first | exact (if_pos (by assumption)).symm | exact (if_neg (by assumption)).symm), Fm⟩
    · refine jt_go jm_m121 73 2 (f' := (157, [(0, .inr (.inr (0, 0, 0))), (1, .inl (nI n)), (2, .inl (z)), (3, .inl (nI w)), (4, .inl (sp_sk g z k)), (5, .inl (sp_acc (sp_pm m g z) k)), (6, .inl (sp_acc (sp_os m g z) k)), (7, .inl (nI k))], [.inl (sp_acc (sp_pm m g z) k)], hm)) (P := True) rfl trivial ?_
      refine jt_iret jm_m121 76 rfl ?_
      have e : k = n := by omega
      subst e
      exact ⟨jt_li (by first | exact (if_pos (by assumption)).symm | exact (if_neg (by assumption)).symm), Fm⟩
  · refine jt_go jm_m121 23 4 (f' := (47, [(0, .inr (.inr (0, 0, 0))), (1, .inl (nI n)), (2, .inl (z)), (3, .inl (nI w)), (4, .inl (sp_sk g z k)), (5, .inl (sp_acc (sp_pm m g z) k)), (6, .inl (sp_acc (sp_os m g z) k)), (7, .inl (nI k))], [.inr (.inr (2, 0, 0)), .inr (.inr (2, 1, 0))], hm)) (P := True) rfl trivial ?_
    refine jt_call jm_m121 27 (mi' := 6) (as := [.inr (.inr (2, 1, 0)), .inr (.inr (2, 0, 0))]) (rest := []) (nxt := 50) rfl rfl jm_m6 rfl rfl (ta_becomes Zm W (by decide)) ?_
    rintro u h1 ⟨rfl, Rh1, Fh1⟩
    show jt_T 121 (50, [(0, .inr (.inr (0, 0, 0))), (1, .inl (nI n)), (2, .inl (z)), (3, .inl (nI w)), (4, .inl (sp_sk g z k)), (5, .inl (sp_acc (sp_pm m g z) k)), (6, .inl (sp_acc (sp_os m g z) k)), (7, .inl (nI k))], [], h1) _
    have Rh1 : jf_rel h1 1 g := Rh1
    have Wh1 : jw (g) := W
    have Zh1 := jf_mov0 Zm Fh1
    have Fh1 := jf_fr_tr Fm Fh1
    refine jt_go jm_m121 28 2 (f' := (53, [(8, .inl (nI 0)), (0, .inr (.inr (0, 0, 0))), (1, .inl (nI n)), (2, .inl (z)), (3, .inl (nI w)), (4, .inl (sp_sk g z k)), (5, .inl (sp_acc (sp_pm m g z) k)), (6, .inl (sp_acc (sp_os m g z) k)), (7, .inl (nI k))], [], h1)) (P := True) rfl trivial ?_
    refine jt_pick (L' := [(0, .inr (.inr (0, 0, 0))), (1, .inl (nI n)), (2, .inl (z)), (3, .inl (nI w)), (4, .inl (sp_sk g z k)), (5, .inl (sp_acc (sp_pm m g z) k)), (6, .inl (sp_acc (sp_os m g z) k)), (7, .inl (nI k)), (8, .inl (nI 0))]) [1, 2, 3, 4, 5, 6, 7, 8, 0] rfl ?_
    refine ca_ng_i (A := sp_acc (sp_pm m g z) k) (B := sp_acc (sp_os m g z) k) (s := sp_sk g z k) (n := n) (w := w) (k := k) (z := z) W (fun h9 Rh9 Gh9 => ?_) 0 (Nat.zero_le _) h1 Rh1 jf_fr_rf
    have Zh9 := jf_mov0 Zh1 Gh9
    have Fh9 := jf_fr_tr Fh1 Gh9
    have Wh9 := (jw_ng W (sp_sk g z k) (g 0) (Nat.le_refl _)).1
    show jt_T 121 (93, [(0, .inr (.inr (0, 0, 0))), (1, .inl (nI n)), (2, .inl (z)), (3, .inl (nI w)), (4, .inl (sp_sk g z (k + 1))), (5, .inl (sp_acc (sp_pm m g z) k)), (6, .inl (sp_acc (sp_os m g z) k)), (7, .inl (nI k)), (8, .inl (nI (g 0)))], [], h9) _
    refine jt_go jm_m121 47 3 (f' := (99, [(0, .inr (.inr (0, 0, 0))), (1, .inl (nI n)), (2, .inl (z)), (3, .inl (nI w)), (4, .inl (sp_sk g z (k + 1))), (5, .inl (sp_acc (sp_pm m g z) k)), (6, .inl (sp_acc (sp_os m g z) k)), (7, .inl (nI k)), (8, .inl (nI (g 0)))], [.inl (nI 10), .inr (.inr (2, 1, 0))], h9)) (P := True) rfl trivial ?_
    refine jt_ti (show (nI 10) = nI m from by rw [hmm]) ?_
    refine jt_call jm_m121 50 (mi' := 17) (as := [.inr (.inr (2, 1, 0)), .inl (nI m)]) (rest := []) (nxt := 102) rfl rfl jm_m17 rfl rfl (ta_goOn Rh9 Wh9 (by omega)) ?_
    rintro u h2 ⟨rfl, Rh2, Fh2⟩
    show jt_T 121 (102, [(0, .inr (.inr (0, 0, 0))), (1, .inl (nI n)), (2, .inl (z)), (3, .inl (nI w)), (4, .inl (sp_sk g z (k + 1))), (5, .inl (sp_acc (sp_pm m g z) k)), (6, .inl (sp_acc (sp_os m g z) k)), (7, .inl (nI k)), (8, .inl (nI (g 0)))], [], h2) _
    have Rh2 : jf_rel h2 1 (sp_it ((sp_ng g (sp_sk g z k) (g 0)).1) m) := Rh2
    have Wh2 : jw (sp_it ((sp_ng g (sp_sk g z k) (g 0)).1) m) := (jw_it Wh9 _).1
    have Zh2 := jf_mov0 Zh9 Fh2
    have Fh2 := jf_fr_tr Fh9 Fh2
    refine jt_go jm_m121 51 4 (f' := (111, [(0, .inr (.inr (0, 0, 0))), (1, .inl (nI n)), (2, .inl (z)), (3, .inl (nI w)), (4, .inl (sp_sk g z (k + 1))), (5, .inl (sp_acc (sp_pm m g z) k)), (6, .inl (sp_acc (sp_os m g z) k)), (7, .inl (nI k)), (8, .inl (nI (g 0)))], [.inl (h2 (2, 1, 0) 13), .inl (sp_acc (sp_pm m g z) k)], h2)) (P := True) rfl trivial ?_
    refine jt_ti (show (h2 (2, 1, 0) 13) = nI (sp_pb (sp_it ((sp_ng g (sp_sk g z k) (g 0)).1) m)) from jf_pass Rh2) ?_
    have bq1 := jw_pb Wh2
    refine jt_callp (w := .inl (nI (sp_cnt (sp_pb (sp_it ((sp_ng g (sp_sk g z k) (g 0)).1) m))))) jm_m121 55 (mi' := 238) (as := [.inl (nI (sp_pb (sp_it ((sp_ng g (sp_sk g z k) (g 0)).1) m)))]) (rest := [.inl (sp_acc (sp_pm m g z) k)]) (nxt := 114) rfl rfl jm_m238 rfl rfl (tj_bits (by omega)) ?_
    have bq2 := sp_cnt_le (sp_pb (sp_it ((sp_ng g (sp_sk g z k) (g 0)).1) m)) (by omega)
    refine jt_go jm_m121 56 3 (f' := (121, [(0, .inr (.inr (0, 0, 0))), (1, .inl (nI n)), (2, .inl (z)), (3, .inl (nI w)), (4, .inl (sp_sk g z (k + 1))), (5, .inl (sp_acc (sp_pm m g z) k)), (6, .inl (sp_acc (sp_os m g z) k)), (7, .inl (nI k)), (8, .inl (nI (g 0)))], [.inl (h2 (2, 0, 0) 13), .inl (nI (sp_cnt (sp_pb (sp_it ((sp_ng g (sp_sk g z k) (g 0)).1) m)))), .inl (sp_acc (sp_pm m g z) k)], h2)) (P := True) rfl trivial ?_
    refine jt_ti (show (h2 (2, 0, 0) 13) = nI (sp_pb g) from jf_pass Zh2) ?_
    have bq3 := jw_pb W
    refine jt_callp (w := .inl (nI (sp_cnt (sp_pb g)))) jm_m121 59 (mi' := 238) (as := [.inl (nI (sp_pb g))]) (rest := [.inl (nI (sp_cnt (sp_pb (sp_it ((sp_ng g (sp_sk g z k) (g 0)).1) m)))), .inl (sp_acc (sp_pm m g z) k)]) (nxt := 124) rfl rfl jm_m238 rfl rfl (tj_bits (by omega)) ?_
    have bq4 := sp_cnt_le (sp_pb g) (by omega)
    refine jt_go jm_m121 60 6 (f' := (134, [(5, .inl ((sp_acc (sp_pm m g z) k) + ((nI (sp_cnt (sp_pb (sp_it ((sp_ng g (sp_sk g z k) (g 0)).1) m)))) - (nI (sp_cnt (sp_pb g)))))), (0, .inr (.inr (0, 0, 0))), (1, .inl (nI n)), (2, .inl (z)), (3, .inl (nI w)), (4, .inl (sp_sk g z (k + 1))), (6, .inl (sp_acc (sp_os m g z) k)), (7, .inl (nI k)), (8, .inl (nI (g 0)))], [.inr (.inr (2, 1, 0)), .inl (sp_acc (sp_os m g z) k)], h2)) (P := True) rfl trivial ?_
    refine jt_callp (w := .inl (nI (sp_sum (fun c => sp_sd ((sp_it ((sp_ng g (sp_sk g z k) (g 0)).1) m) (38 + 5 * c))) ((sp_it ((sp_ng g (sp_sk g z k) (g 0)).1) m) 0)))) jm_m121 66 (mi' := 30) (as := [.inr (.inr (2, 1, 0))]) (rest := [.inl (sp_acc (sp_os m g z) k)]) (nxt := 137) rfl rfl jm_m30 rfl rfl (ta_side1 Rh2 Wh2) ?_
    refine jt_go jm_m121 67 2 (f' := (140, [(6, .inl ((sp_acc (sp_os m g z) k) + (nI (sp_sum (fun c => sp_sd ((sp_it ((sp_ng g (sp_sk g z k) (g 0)).1) m) (38 + 5 * c))) ((sp_it ((sp_ng g (sp_sk g z k) (g 0)).1) m) 0))))), (5, .inl ((sp_acc (sp_pm m g z) k) + ((nI (sp_cnt (sp_pb (sp_it ((sp_ng g (sp_sk g z k) (g 0)).1) m)))) - (nI (sp_cnt (sp_pb g)))))), (0, .inr (.inr (0, 0, 0))), (1, .inl (nI n)), (2, .inl (z)), (3, .inl (nI w)), (4, .inl (sp_sk g z (k + 1))), (7, .inl (nI k)), (8, .inl (nI (g 0)))], [], h2)) (P := True) rfl trivial ?_
    refine jt_inc jm_m121 69 (c := k) (L' := [(7, .inl (nI (k + 1))), (6, .inl ((sp_acc (sp_os m g z) k) + (nI (sp_sum (fun c => sp_sd ((sp_it ((sp_ng g (sp_sk g z k) (g 0)).1) m) (38 + 5 * c))) ((sp_it ((sp_ng g (sp_sk g z k) (g 0)).1) m) 0))))), (5, .inl ((sp_acc (sp_pm m g z) k) + ((nI (sp_cnt (sp_pb (sp_it ((sp_ng g (sp_sk g z k) (g 0)).1) m)))) - (nI (sp_cnt (sp_pb g)))))), (0, .inr (.inr (0, 0, 0))), (1, .inl (nI n)), (2, .inl (z)), (3, .inl (nI w)), (4, .inl (sp_sk g z (k + 1))), (8, .inl (nI (g 0)))]) rfl rfl rfl rfl ?_
    refine jt_go jm_m121 70 1 (f' := (33, [(7, .inl (nI (k + 1))), (6, .inl ((sp_acc (sp_os m g z) k) + (nI (sp_sum (fun c => sp_sd ((sp_it ((sp_ng g (sp_sk g z k) (g 0)).1) m) (38 + 5 * c))) ((sp_it ((sp_ng g (sp_sk g z k) (g 0)).1) m) 0))))), (5, .inl ((sp_acc (sp_pm m g z) k) + ((nI (sp_cnt (sp_pb (sp_it ((sp_ng g (sp_sk g z k) (g 0)).1) m)))) - (nI (sp_cnt (sp_pb g)))))), (0, .inr (.inr (0, 0, 0))), (1, .inl (nI n)), (2, .inl (z)), (3, .inl (nI w)), (4, .inl (sp_sk g z (k + 1))), (8, .inl (nI (g 0)))], [], h2)) (P := True) rfl trivial ?_
    refine jt_pick (L' := [(0, .inr (.inr (0, 0, 0))), (1, .inl (nI n)), (2, .inl (z)), (3, .inl (nI w)), (4, .inl (sp_sk g z (k + 1))), (5, .inl ((sp_acc (sp_pm m g z) k) + ((nI (sp_cnt (sp_pb (sp_it ((sp_ng g (sp_sk g z k) (g 0)).1) m)))) - (nI (sp_cnt (sp_pb g)))))), (6, .inl ((sp_acc (sp_os m g z) k) + (nI (sp_sum (fun c => sp_sd ((sp_it ((sp_ng g (sp_sk g z k) (g 0)).1) m) (38 + 5 * c))) ((sp_it ((sp_ng g (sp_sk g z k) (g 0)).1) m) 0))))), (7, .inl (nI (k + 1)))]) [3, 4, 5, 6, 7, 2, 1, 0] rfl ?_
    exact nx (by omega) h2 Zh2 Fh2)
def zb_nights (g : Nat → Nat) (n w : Nat) (z : Int32) : Int32 := if w = 0 then sp_acc (sp_pm 10 g z) n else sp_acc (sp_os 10 g z) n
def za_nights (g : Nat → Nat) (x z v : Int32) : Int32 := if (nI 1 ≤ x ∧ x ≤ nI 20) ∧ (nI 0 ≤ v ∧ v ≤ nI 1) then zb_nights g x.toNatClampNeg v.toNatClampNeg z else (-1)
set_option maxHeartbeats 4000000 in
set_option maxRecDepth 20000 in
theorem ca_nights {h : jm_M} {g : Nat → Nat} (R : jf_rel h 0 g) (W : jw g) {x z v : Int32} : jt_T 121 (0, [(0, .inr (.inr (0, 0, 0))), (1, .inl (x)), (2, .inl (z)), (3, .inl (v))], [], h) (fun u h' => u = some (.inl (za_nights g x z v)) ∧ jf_fr 1 h h') := by
  have bn := jw_n W
  have bm := jw_m W
  have bt := jw_t W
  refine jt_go jm_m121 0 3 (f' := (4, [(0, .inr (.inr (0, 0, 0))), (1, .inl (x)), (2, .inl (z)), (3, .inl (v))], [.inl (nI 20), .inl (nI 1), .inl (x)], h)) (P := True) rfl trivial ?_
  refine jt_callp (w := .inl (jm_b (nI 1 ≤ x ∧ x ≤ nI 20))) jm_m121 3 (mi' := 136) (as := [.inl (x), .inl (nI 1), .inl (nI 20)]) (rest := []) (nxt := 7) rfl rfl jm_m136 rfl rfl (ta_within) ?_
  refine jt_ifbeq jm_m121 4 (tgt := 19) (nxt := 10) rfl rfl rfl (fun c7 => ?_) (fun c7 => ?_)
  · refine jt_go jm_m121 10 1 (f' := (20, [(0, .inr (.inr (0, 0, 0))), (1, .inl (x)), (2, .inl (z)), (3, .inl (v))], [.inl ((-1))], h)) (P := True) rfl trivial ?_
    refine jt_iret jm_m121 11 rfl ?_
    exact ⟨jt_li (if_neg (fun z => c7 z.1)).symm, jf_fr_rf⟩
  · obtain ⟨n, gn, hbn, rfl⟩ := jx_win2 (by decide) (by decide) c7
    refine jt_go jm_m121 5 3 (f' := (13, [(0, .inr (.inr (0, 0, 0))), (1, .inl (nI n)), (2, .inl (z)), (3, .inl (v))], [.inl (nI 1), .inl (nI 0), .inl (v)], h)) (P := True) rfl trivial ?_
    refine jt_callp (w := .inl (jm_b (nI 0 ≤ v ∧ v ≤ nI 1))) jm_m121 8 (mi' := 136) (as := [.inl (v), .inl (nI 0), .inl (nI 1)]) (rest := []) (nxt := 16) rfl rfl jm_m136 rfl rfl (ta_within) ?_
    refine jt_ifbne jm_m121 9 (tgt := 21) (nxt := 19) rfl rfl rfl (fun c16 => ?_) (fun c16 => ?_)
    · obtain ⟨w, hbw, rfl⟩ := jx_win (by decide) c16
      refine jt_go jm_m121 12 8 (f' := (33, [(7, .inl (nI 0)), (6, .inl (nI 0)), (5, .inl (nI 0)), (4, .inl (z)), (0, .inr (.inr (0, 0, 0))), (1, .inl (nI n)), (2, .inl (z)), (3, .inl (nI w))], [], h)) (P := True) rfl trivial ?_
      refine jt_pick (L' := [(0, .inr (.inr (0, 0, 0))), (1, .inl (nI n)), (2, .inl (z)), (3, .inl (nI w)), (4, .inl (z)), (5, .inl (nI 0)), (6, .inl (nI 0)), (7, .inl (nI 0))]) [4, 5, 6, 7, 3, 2, 1, 0] rfl ?_
      refine jt_mono (ca_nights_l (m := 10) W hbn hbw rfl 0 (Nat.zero_le _) _ R jf_fr_rf) (fun u h2 zz => ⟨zz.1.trans (jt_li ?_), zz.2⟩)
      unfold za_nights
      refine Eq.trans ?_ (if_pos ⟨c7, c16⟩).symm
      rw [nI_clamp (n := n) (by omega), nI_clamp (n := w) (by omega)]
      unfold zb_nights
      first | done | with_reducible rfl
    · refine jt_go jm_m121 10 1 (f' := (20, [(0, .inr (.inr (0, 0, 0))), (1, .inl (nI n)), (2, .inl (z)), (3, .inl (v))], [.inl ((-1))], h)) (P := True) rfl trivial ?_
      refine jt_iret jm_m121 11 rfl ?_
      exact ⟨jt_li (if_neg (fun z => c16 z.2)).symm, jf_fr_rf⟩
set_option maxHeartbeats 4000000 in
set_option maxRecDepth 20000 in
theorem cb_drawn {h : jm_M} {s : Int32} (e : h (4, 0, 0) 10 = s) : jt_T 221 (0, [(0, .inr (.inr (4, 0, 0))), (1, .inl (nI 16))], [], h) (fun u h' => u = some (.inl (nI (sp_dr (sp_ns s)))) ∧ h' = jm_set h (4, 0, 0) (upd (h (4, 0, 0)) 10 (sp_ns s))) := by
  refine jt_go jm_m221 0 3 (f' := (5, [(0, .inr (.inr (4, 0, 0))), (1, .inl (nI 16))], [.inl (h (4, 0, 0) 10), .inr (.inr (4, 0, 0))], h)) (P := True) rfl trivial ?_
  refine jt_ti (show (h (4, 0, 0) 10) = s from e) ?_
  refine jt_go jm_m221 3 4 (f' := (12, [(0, .inr (.inr (4, 0, 0))), (1, .inl (nI 16))], [.inl ((s * (nI 1103515245)) + (nI 12345)), .inr (.inr (4, 0, 0))], h)) (P := True) rfl trivial ?_
  refine jt_ti (show ((s * (nI 1103515245)) + (nI 12345)) = sp_ns s from rfl) ?_
  refine jt_goM jm_m221 7 1 (pc' := 15) (L' := [(0, .inr (.inr (4, 0, 0))), (1, .inl (nI 16))]) (st' := []) (m' := jm_set h (4, 0, 0) (upd (h (4, 0, 0)) 10 (sp_ns s))) (P := True) rfl trivial (fun h1 eh1 => ?_)
  refine jt_go jm_m221 8 2 (f' := (19, [(0, .inr (.inr (4, 0, 0))), (1, .inl (nI 16))], [.inl (h1 (4, 0, 0) 10)], h1)) (P := True) rfl trivial ?_
  refine jt_ti (show (h1 (4, 0, 0) 10) = sp_ns s from by rw [eh1, jm_set_eq, jx_eq]) ?_
  refine jt_go jm_m221 10 6 (f' := (27, [(0, .inr (.inr (4, 0, 0))), (1, .inl (nI 16))], [.inl ((((sp_ns s) &&& (nI 2147483647)) / (nI 65536)) - (((sp_ns s) &&& (nI 2147483647)) / (nI 65536)) / (nI 16) * (nI 16))], h1)) (P := ¬ (nI 65536) = 0 ∧ ¬ (nI 16) = 0 ∧ True) rfl ⟨(by decide), (by decide), trivial⟩ ?_
  refine jt_ti (show ((((sp_ns s) &&& (nI 2147483647)) / (nI 65536)) - (((sp_ns s) &&& (nI 2147483647)) / (nI 65536)) / (nI 16) * (nI 16)) = nI (sp_dr (sp_ns s)) from sp_dr_eq _) ?_
  refine jt_iret jm_m221 16 rfl ?_
  exact ⟨rfl, eh1⟩
theorem jg_slot {h : jm_M} {a k : Nat} {g : Nat → Nat} {x : Int32} (R : jg_rel h a g) : jg_rel (jm_set h (4, 0, 0) (upd (h (4, 0, 0)) k x)) a g := fun i hi => by rw [jm_set_ne (by simp)]; exact R i hi
set_option maxHeartbeats 4000000 in
set_option maxRecDepth 20000 in
theorem cb_ng_i {h : jm_M} {g : Nat → Nat} {Q : Option jm_V → jm_M → Prop} (W : jw g) {n w k : Nat} {z s A : Int32} (hend : ∀ h2, jg_rel h2 1 (sp_ng g s (g 0)).1 → jg_rel h2 0 g → h2 (4, 0, 0) 10 = (sp_ng g s (g 0)).2 → jo_fr h h2 → jt_T 222 (86, [(0, .inr (.inr (4, 0, 0))), (1, .inl (nI n)), (2, .inl (z)), (3, .inl (nI w)), (4, .inl (A)), (5, .inl (nI k)), (6, .inl (nI (g 0)))], [], h2) Q) : ∀ c, c ≤ g 0 → ∀ hm : jm_M, jg_rel hm 1 (sp_ng g s c).1 → jg_rel hm 0 g → hm (4, 0, 0) 10 = (sp_ng g s c).2 → jo_fr h hm → jt_T 222 (52, [(0, .inr (.inr (4, 0, 0))), (1, .inl (nI n)), (2, .inl (z)), (3, .inl (nI w)), (4, .inl (A)), (5, .inl (nI k)), (6, .inl (nI c))], [], hm) Q := jx_up (P := fun c => ∀ hm : jm_M, jg_rel hm 1 (sp_ng g s c).1 → jg_rel hm 0 g → hm (4, 0, 0) 10 = (sp_ng g s c).2 → jo_fr h hm → jt_T 222 (52, [(0, .inr (.inr (4, 0, 0))), (1, .inl (nI n)), (2, .inl (z)), (3, .inl (nI w)), (4, .inl (A)), (5, .inl (nI k)), (6, .inl (nI c))], [], hm) Q) (fun c hk nx hm Rm Zm Sm Fm => by
  have bn := jw_n W
  have wc := jw_ng W s c hk
  have Wc := wc.1
  have e0 := wc.2
  refine jt_go jm_m222 29 5 (f' := (60, [(0, .inr (.inr (4, 0, 0))), (1, .inl (nI n)), (2, .inl (z)), (3, .inl (nI w)), (4, .inl (A)), (5, .inl (nI k)), (6, .inl (nI c))], [.inl (hm (5, 0, 0) (nI 0).toNatClampNeg), .inl (nI c)], hm)) (P := vp_in (nI 0) 78 ∧ True) rfl ⟨(vp_in_nI (by omega) (by decide)), trivial⟩ ?_
  refine jt_ti (show (hm (5, 0, 0) (nI 0).toNatClampNeg) = nI (g 0) from jg_get Zm (k := 0) (nI_clamp (by omega)) (by omega)) ?_
  have bq1 := jw_n W
  refine jt_nicge jm_m222 34 (a := c) (b := g 0) (by omega) (by omega) (tgt := 86) (nxt := 63) rfl rfl rfl (fun c60 => ?_) (fun c60 => ?_)
  · refine jt_pick (L' := [(0, .inr (.inr (4, 0, 0))), (1, .inl (nI n)), (2, .inl (z)), (3, .inl (nI w)), (4, .inl (A)), (5, .inl (nI k)), (6, .inl (nI c))]) [0, 1, 2, 3, 4, 5, 6] rfl ?_
    have e : c = g 0 := by omega
    subst e
    exact hend hm Rm Zm Sm Fm
  · refine jt_go jm_m222 35 4 (f' := (70, [(0, .inr (.inr (4, 0, 0))), (1, .inl (nI n)), (2, .inl (z)), (3, .inl (nI w)), (4, .inl (A)), (5, .inl (nI k)), (6, .inl (nI c))], [.inl (nI 2), .inl (nI c), .inr (.inr (5, 1, 0))], hm)) (P := True) rfl trivial ?_
    refine jt_callp (w := .inl (nI (38 + 5 * c))) jm_m222 39 (mi' := 147) (as := [.inl (nI c), .inl (nI 2)]) (rest := [.inr (.inr (5, 1, 0))]) (nxt := 73) rfl rfl jm_m147 rfl rfl (tb_ofC (k := 38 + 5 * c) (by omega)) ?_
    refine jt_go jm_m222 40 2 (f' := (76, [(0, .inr (.inr (4, 0, 0))), (1, .inl (nI n)), (2, .inl (z)), (3, .inl (nI w)), (4, .inl (A)), (5, .inl (nI k)), (6, .inl (nI c))], [.inl (nI 16), .inr (.inr (4, 0, 0)), .inl (nI (38 + 5 * c)), .inr (.inr (5, 1, 0))], hm)) (P := True) rfl trivial ?_
    refine jt_call jm_m222 42 (mi' := 221) (as := [.inr (.inr (4, 0, 0)), .inl (nI 16)]) (rest := [.inl (nI (38 + 5 * c)), .inr (.inr (5, 1, 0))]) (nxt := 79) rfl rfl jm_m221 rfl rfl (cb_drawn Sm) ?_
    rintro u h1 ⟨rfl, eh1⟩
    show jt_T 222 (79, [(0, .inr (.inr (4, 0, 0))), (1, .inl (nI n)), (2, .inl (z)), (3, .inl (nI w)), (4, .inl (A)), (5, .inl (nI k)), (6, .inl (nI c))], [.inl (nI (sp_dr (sp_ns (sp_ng g s c).2))), .inl (nI (38 + 5 * c)), .inr (.inr (5, 1, 0))], h1) _
    have bd := sp_dr_lt (sp_ns (sp_ng g s c).2)
    have Rh1 : jg_rel h1 1 (sp_ng g s c).1 := by rw [eh1]; exact jg_slot Rm
    have Zh1 : jg_rel h1 0 g := by rw [eh1]; exact jg_slot Zm
    have Sh1 : h1 (4, 0, 0) 10 = sp_ns (sp_ng g s c).2 := by rw [eh1, jm_set_eq, jx_eq]
    have Fh1 : jo_fr h h1 := jo_tr Fm (by rw [eh1]; exact jo_slot (by decide))
    refine jt_goM jm_m222 43 1 (pc' := 80) (L' := [(0, .inr (.inr (4, 0, 0))), (1, .inl (nI n)), (2, .inl (z)), (3, .inl (nI w)), (4, .inl (A)), (5, .inl (nI k)), (6, .inl (nI c))]) (st' := []) (m' := jm_set h1 (5, 1, 0) (upd (h1 (5, 1, 0)) (nI (38 + 5 * c)).toNatClampNeg (nI (sp_dr (sp_ns (sp_ng g s c).2))))) (P := vp_in (nI (38 + 5 * c)) 78 ∧ True) rfl ⟨(vp_in_nI (by omega) (by decide)), trivial⟩ (fun h2 eh2 => ?_)
    have Rh2 : jg_rel h2 1 (sp_ng g s (c + 1)).1 := by rw [eh2]; exact jg_set Rh1 (k := 38 + 5 * c) (w := sp_dr (sp_ns (sp_ng g s c).2)) (nI_clamp (by omega)) rfl
    have Fh2 : jo_fr h h2 := jo_tr Fh1 (by rw [eh2]; exact jo_of (jg_fr_set jg_fr_rf))
    have Sh2 : h2 (4, 0, 0) 10 = (sp_ng g s (c + 1)).2 := by rw [eh2, jm_set_ne (by simp)]; exact Sh1
    have Zh2 : jg_rel h2 0 g := jg_mov0 Zh1 (by rw [eh2]; exact jg_fr_set jg_fr_rf)
    refine jt_inc jm_m222 44 (c := c) (L' := [(6, .inl (nI (c + 1))), (0, .inr (.inr (4, 0, 0))), (1, .inl (nI n)), (2, .inl (z)), (3, .inl (nI w)), (4, .inl (A)), (5, .inl (nI k))]) rfl rfl rfl rfl ?_
    refine jt_go jm_m222 45 1 (f' := (52, [(6, .inl (nI (c + 1))), (0, .inr (.inr (4, 0, 0))), (1, .inl (nI n)), (2, .inl (z)), (3, .inl (nI w)), (4, .inl (A)), (5, .inl (nI k))], [], h2)) (P := True) rfl trivial ?_
    refine jt_pick (L' := [(0, .inr (.inr (4, 0, 0))), (1, .inl (nI n)), (2, .inl (z)), (3, .inl (nI w)), (4, .inl (A)), (5, .inl (nI k)), (6, .inl (nI (c + 1)))]) [1, 2, 3, 4, 5, 6, 0] rfl ?_
    exact nx (by omega) h2 Rh2 Zh2 Sh2 Fh2)
set_option maxHeartbeats 4000000 in
set_option maxRecDepth 20000 in
theorem cb_nights_l {h : jm_M} {g : Nat → Nat} (W : jw g) {n w m : Nat} {z : Int32} (hnn : n ≤ 20) (hw : w ≤ 1) (hmm : m = 10) : ∀ k, k ≤ n → ∀ hm : jm_M, (jg_rel hm 0 g) → (jo_fr h hm) → (hm (4, 0, 0) 10 = sp_sk g z k) → jt_T 222 (32, [(0, .inr (.inr (4, 0, 0))), (1, .inl (nI n)), (2, .inl (z)), (3, .inl (nI w)), (4, .inl ((if w = 0 then sp_acc (sp_pm m g z) k else sp_acc (sp_os m g z) k))), (5, .inl (nI k))], [], hm) (fun u h' => u = some (.inl (if w = 0 then sp_acc (sp_pm m g z) n else sp_acc (sp_os m g z) n)) ∧ jo_fr h h') := jx_up (P := fun k => ∀ hm : jm_M, (jg_rel hm 0 g) → (jo_fr h hm) → (hm (4, 0, 0) 10 = sp_sk g z k) → jt_T 222 (32, [(0, .inr (.inr (4, 0, 0))), (1, .inl (nI n)), (2, .inl (z)), (3, .inl (nI w)), (4, .inl ((if w = 0 then sp_acc (sp_pm m g z) k else sp_acc (sp_os m g z) k))), (5, .inl (nI k))], [], hm) (fun u h' => u = some (.inl (if w = 0 then sp_acc (sp_pm m g z) n else sp_acc (sp_os m g z) n)) ∧ jo_fr h h')) (fun k hk nx hm Zm Fm Sm => by
  have bn := jw_n W
  have bm := jw_m W
  have bt := jw_t W
  refine jt_go jm_m222 19 2 (f' := (35, [(0, .inr (.inr (4, 0, 0))), (1, .inl (nI n)), (2, .inl (z)), (3, .inl (nI w)), (4, .inl ((if w = 0 then sp_acc (sp_pm m g z) k else sp_acc (sp_os m g z) k))), (5, .inl (nI k))], [.inl (nI n), .inl (nI k)], hm)) (P := True) rfl trivial ?_
  refine jt_nicge jm_m222 21 (a := k) (b := n) (by omega) (by omega) (tgt := 143) (nxt := 38) rfl rfl rfl (fun c35 => ?_) (fun c35 => ?_)
  · refine jt_go jm_m222 72 1 (f' := (145, [(0, .inr (.inr (4, 0, 0))), (1, .inl (nI n)), (2, .inl (z)), (3, .inl (nI w)), (4, .inl ((if w = 0 then sp_acc (sp_pm m g z) k else sp_acc (sp_os m g z) k))), (5, .inl (nI k))], [.inl ((if w = 0 then sp_acc (sp_pm m g z) k else sp_acc (sp_os m g z) k))], hm)) (P := True) rfl trivial ?_
    refine jt_iret jm_m222 73 rfl ?_
    have e : k = n := by omega
    subst e
    exact ⟨rfl, Fm⟩
  · refine jt_go jm_m222 22 4 (f' := (46, [(0, .inr (.inr (4, 0, 0))), (1, .inl (nI n)), (2, .inl (z)), (3, .inl (nI w)), (4, .inl ((if w = 0 then sp_acc (sp_pm m g z) k else sp_acc (sp_os m g z) k))), (5, .inl (nI k))], [.inr (.inr (5, 1, 0)), .inr (.inr (5, 0, 0))], hm)) (P := True) rfl trivial ?_
    refine jt_call jm_m222 26 (mi' := 146) (as := [.inr (.inr (5, 0, 0)), .inr (.inr (5, 1, 0))]) (rest := []) (nxt := 49) rfl rfl jm_m146 rfl rfl (tb_copies Zm (by decide)) ?_
    rintro u h1 ⟨rfl, Rh1, Fh1⟩
    show jt_T 222 (49, [(0, .inr (.inr (4, 0, 0))), (1, .inl (nI n)), (2, .inl (z)), (3, .inl (nI w)), (4, .inl ((if w = 0 then sp_acc (sp_pm m g z) k else sp_acc (sp_os m g z) k))), (5, .inl (nI k))], [], h1) _
    have Rh1 : jg_rel h1 1 g := Rh1
    have Wh1 : jw (g) := W
    have Zh1 := jg_mov0 Zm Fh1
    refine jt_go jm_m222 27 2 (f' := (52, [(6, .inl (nI 0)), (0, .inr (.inr (4, 0, 0))), (1, .inl (nI n)), (2, .inl (z)), (3, .inl (nI w)), (4, .inl ((if w = 0 then sp_acc (sp_pm m g z) k else sp_acc (sp_os m g z) k))), (5, .inl (nI k))], [], h1)) (P := True) rfl trivial ?_
    refine jt_pick (L' := [(0, .inr (.inr (4, 0, 0))), (1, .inl (nI n)), (2, .inl (z)), (3, .inl (nI w)), (4, .inl ((if w = 0 then sp_acc (sp_pm m g z) k else sp_acc (sp_os m g z) k))), (5, .inl (nI k)), (6, .inl (nI 0))]) [1, 2, 3, 4, 5, 6, 0] rfl ?_
    have Sm2 : h1 (4, 0, 0) 10 = sp_sk g z k := (congrFun (Fh1 (4, 0, 0) (by decide)) 10).trans Sm
    have Jm2 : jo_fr h h1 := jo_tr Fm (jo_of Fh1)
    refine cb_ng_i (h := h) (A := (if w = 0 then sp_acc (sp_pm m g z) k else sp_acc (sp_os m g z) k)) (s := sp_sk g z k) (n := n) (w := w) (k := k) (z := z) W (fun h9 Rh9 Zh9 Sh9 Jh9 => ?_) 0 (Nat.zero_le _) h1 Rh1 Zh1 Sm2 Jm2
    have Wh9 := (jw_ng W (sp_sk g z k) (g 0) (Nat.le_refl _)).1
    have Fh9 : jg_fr 1 h9 h9 := jg_fr_rf
    show jt_T 222 (86, [(0, .inr (.inr (4, 0, 0))), (1, .inl (nI n)), (2, .inl (z)), (3, .inl (nI w)), (4, .inl ((if w = 0 then sp_acc (sp_pm m g z) k else sp_acc (sp_os m g z) k))), (5, .inl (nI k)), (6, .inl (nI (g 0)))], [], h9) _
    refine jt_go jm_m222 46 3 (f' := (92, [(0, .inr (.inr (4, 0, 0))), (1, .inl (nI n)), (2, .inl (z)), (3, .inl (nI w)), (4, .inl ((if w = 0 then sp_acc (sp_pm m g z) k else sp_acc (sp_os m g z) k))), (5, .inl (nI k)), (6, .inl (nI (g 0)))], [.inl (nI 10), .inr (.inr (5, 1, 0))], h9)) (P := True) rfl trivial ?_
    refine jt_ti (show (nI 10) = nI m from by rw [hmm]) ?_
    refine jt_call jm_m222 49 (mi' := 164) (as := [.inr (.inr (5, 1, 0)), .inl (nI m)]) (rest := []) (nxt := 95) rfl rfl jm_m164 rfl rfl (tb_goOn Rh9 Wh9 (by omega)) ?_
    rintro u h2 ⟨rfl, Rh2, Fh2⟩
    show jt_T 222 (95, [(0, .inr (.inr (4, 0, 0))), (1, .inl (nI n)), (2, .inl (z)), (3, .inl (nI w)), (4, .inl ((if w = 0 then sp_acc (sp_pm m g z) k else sp_acc (sp_os m g z) k))), (5, .inl (nI k)), (6, .inl (nI (g 0)))], [], h2) _
    have Rh2 : jg_rel h2 1 (sp_it ((sp_ng g (sp_sk g z k) (g 0)).1) m) := Rh2
    have Wh2 : jw (sp_it ((sp_ng g (sp_sk g z k) (g 0)).1) m) := (jw_it Wh9 _).1
    have Zh2 := jg_mov0 Zh9 Fh2
    have Fh2 := jg_fr_tr jg_fr_rf Fh2
    refine jt_go jm_m222 50 2 (f' := (98, [(0, .inr (.inr (4, 0, 0))), (1, .inl (nI n)), (2, .inl (z)), (3, .inl (nI w)), (4, .inl ((if w = 0 then sp_acc (sp_pm m g z) k else sp_acc (sp_os m g z) k))), (5, .inl (nI k)), (6, .inl (nI (g 0)))], [.inl (nI w), .inl ((if w = 0 then sp_acc (sp_pm m g z) k else sp_acc (sp_os m g z) k))], h2)) (P := True) rfl trivial ?_
    refine jt_nifne jm_m222 52 (by omega) (tgt := 125) (nxt := 101) rfl rfl rfl (fun c98 => ?_) (fun c98 => ?_)
    · refine jt_go jm_m222 63 4 (f' := (131, [(0, .inr (.inr (4, 0, 0))), (1, .inl (nI n)), (2, .inl (z)), (3, .inl (nI w)), (4, .inl ((if w = 0 then sp_acc (sp_pm m g z) k else sp_acc (sp_os m g z) k))), (5, .inl (nI k)), (6, .inl (nI (g 0)))], [.inl (nI 1), .inr (.inr (5, 1, 0)), .inr (.inr (4, 0, 0)), .inl ((if w = 0 then sp_acc (sp_pm m g z) k else sp_acc (sp_os m g z) k))], h2)) (P := True) rfl trivial ?_
      refine jt_callp (w := .inl (nI (sp_sum (fun c => if sp_sd ((sp_it ((sp_ng g (sp_sk g z k) (g 0)).1) m) (38 + 5 * c)) = 1 then 1 else 0) ((sp_it ((sp_ng g (sp_sk g z k) (g 0)).1) m) 0)))) jm_m222 67 (mi' := 212) (as := [.inr (.inr (4, 0, 0)), .inr (.inr (5, 1, 0)), .inl (nI 1)]) (rest := [.inl ((if w = 0 then sp_acc (sp_pm m g z) k else sp_acc (sp_os m g z) k))]) (nxt := 134) rfl rfl jm_m212 rfl rfl (tb_side Rh2 Wh2 (by omega)) ?_
      refine jt_go jm_m222 68 2 (f' := (137, [(4, .inl ((if w = 0 then sp_acc (sp_pm m g z) k else sp_acc (sp_os m g z) k) + (nI (sp_sum (fun c => if sp_sd ((sp_it ((sp_ng g (sp_sk g z k) (g 0)).1) m) (38 + 5 * c)) = 1 then 1 else 0) ((sp_it ((sp_ng g (sp_sk g z k) (g 0)).1) m) 0))))), (0, .inr (.inr (4, 0, 0))), (1, .inl (nI n)), (2, .inl (z)), (3, .inl (nI w)), (5, .inl (nI k)), (6, .inl (nI (g 0)))], [], h2)) (P := True) rfl trivial ?_
      refine jt_inc jm_m222 70 (c := k) (L' := [(5, .inl (nI (k + 1))), (4, .inl ((if w = 0 then sp_acc (sp_pm m g z) k else sp_acc (sp_os m g z) k) + (nI (sp_sum (fun c => if sp_sd ((sp_it ((sp_ng g (sp_sk g z k) (g 0)).1) m) (38 + 5 * c)) = 1 then 1 else 0) ((sp_it ((sp_ng g (sp_sk g z k) (g 0)).1) m) 0))))), (0, .inr (.inr (4, 0, 0))), (1, .inl (nI n)), (2, .inl (z)), (3, .inl (nI w)), (6, .inl (nI (g 0)))]) rfl rfl rfl rfl ?_
      refine jt_go jm_m222 71 1 (f' := (32, [(5, .inl (nI (k + 1))), (4, .inl ((if w = 0 then sp_acc (sp_pm m g z) k else sp_acc (sp_os m g z) k) + (nI (sp_sum (fun c => if sp_sd ((sp_it ((sp_ng g (sp_sk g z k) (g 0)).1) m) (38 + 5 * c)) = 1 then 1 else 0) ((sp_it ((sp_ng g (sp_sk g z k) (g 0)).1) m) 0))))), (0, .inr (.inr (4, 0, 0))), (1, .inl (nI n)), (2, .inl (z)), (3, .inl (nI w)), (6, .inl (nI (g 0)))], [], h2)) (P := True) rfl trivial ?_
      refine jt_pick (L' := [(0, .inr (.inr (4, 0, 0))), (1, .inl (nI n)), (2, .inl (z)), (3, .inl (nI w)), (4, .inl ((if w = 0 then sp_acc (sp_pm m g z) k else sp_acc (sp_os m g z) k) + (nI (sp_sum (fun c => if sp_sd ((sp_it ((sp_ng g (sp_sk g z k) (g 0)).1) m) (38 + 5 * c)) = 1 then 1 else 0) ((sp_it ((sp_ng g (sp_sk g z k) (g 0)).1) m) 0))))), (5, .inl (nI (k + 1)))]) [2, 3, 4, 5, 1, 0] rfl ?_
      have e : (if w = 0 then sp_acc (sp_pm m g z) (k + 1) else sp_acc (sp_os m g z) (k + 1)) = (if w = 0 then sp_acc (sp_pm m g z) k else sp_acc (sp_os m g z) k) + (nI (sp_sum (fun c => if sp_sd ((sp_it ((sp_ng g (sp_sk g z k) (g 0)).1) m) (38 + 5 * c)) = 1 then 1 else 0) ((sp_it ((sp_ng g (sp_sk g z k) (g 0)).1) m) 0))) := by rw [if_neg (by omega), if_neg (by omega)]; show _ + sp_os m g z k = _; unfold sp_os; rw [← sp_sum_1 _ _ (fun i => sp_sd_le _)]; rfl
      have q := nx (by omega) h2 Zh2 (jo_tr Jh9 (jo_of Fh2)) ((congrFun (Fh2 (4, 0, 0) (by decide)) 10).trans Sh9)
      rw [e] at q
      exact q
    · refine jt_go jm_m222 53 2 (f' := (105, [(0, .inr (.inr (4, 0, 0))), (1, .inl (nI n)), (2, .inl (z)), (3, .inl (nI w)), (4, .inl ((if w = 0 then sp_acc (sp_pm m g z) k else sp_acc (sp_os m g z) k))), (5, .inl (nI k)), (6, .inl (nI (g 0)))], [.inr (.inr (5, 1, 0)), .inl ((if w = 0 then sp_acc (sp_pm m g z) k else sp_acc (sp_os m g z) k))], h2)) (P := True) rfl trivial ?_
      refine jt_callp (w := .inl (nI (sp_pb (sp_it ((sp_ng g (sp_sk g z k) (g 0)).1) m)))) jm_m222 55 (mi' := 165) (as := [.inr (.inr (5, 1, 0))]) (rest := [.inl ((if w = 0 then sp_acc (sp_pm m g z) k else sp_acc (sp_os m g z) k))]) (nxt := 108) rfl rfl jm_m165 rfl rfl (tb_passed Rh2 Wh2) ?_
      have bq1 := jw_pb Wh2
      refine jt_callp (w := .inl (nI (sp_cnt (sp_pb (sp_it ((sp_ng g (sp_sk g z k) (g 0)).1) m))))) jm_m222 56 (mi' := 153) (as := [.inl (nI (sp_pb (sp_it ((sp_ng g (sp_sk g z k) (g 0)).1) m)))]) (rest := [.inl ((if w = 0 then sp_acc (sp_pm m g z) k else sp_acc (sp_os m g z) k))]) (nxt := 111) rfl rfl jm_m153 rfl rfl (tb_bits (by omega)) ?_
      have bq2 := sp_cnt_le (sp_pb (sp_it ((sp_ng g (sp_sk g z k) (g 0)).1) m)) (by omega)
      refine jt_go jm_m222 57 2 (f' := (115, [(0, .inr (.inr (4, 0, 0))), (1, .inl (nI n)), (2, .inl (z)), (3, .inl (nI w)), (4, .inl ((if w = 0 then sp_acc (sp_pm m g z) k else sp_acc (sp_os m g z) k))), (5, .inl (nI k)), (6, .inl (nI (g 0)))], [.inr (.inr (5, 0, 0)), .inl (nI (sp_cnt (sp_pb (sp_it ((sp_ng g (sp_sk g z k) (g 0)).1) m)))), .inl ((if w = 0 then sp_acc (sp_pm m g z) k else sp_acc (sp_os m g z) k))], h2)) (P := True) rfl trivial ?_
      refine jt_callp (w := .inl (nI (sp_pb g))) jm_m222 59 (mi' := 165) (as := [.inr (.inr (5, 0, 0))]) (rest := [.inl (nI (sp_cnt (sp_pb (sp_it ((sp_ng g (sp_sk g z k) (g 0)).1) m)))), .inl ((if w = 0 then sp_acc (sp_pm m g z) k else sp_acc (sp_os m g z) k))]) (nxt := 118) rfl rfl jm_m165 rfl rfl (tb_passed Zh2 W) ?_
      have bq3 := jw_pb W
      refine jt_callp (w := .inl (nI (sp_cnt (sp_pb g)))) jm_m222 60 (mi' := 153) (as := [.inl (nI (sp_pb g))]) (rest := [.inl (nI (sp_cnt (sp_pb (sp_it ((sp_ng g (sp_sk g z k) (g 0)).1) m)))), .inl ((if w = 0 then sp_acc (sp_pm m g z) k else sp_acc (sp_os m g z) k))]) (nxt := 121) rfl rfl jm_m153 rfl rfl (tb_bits (by omega)) ?_
      have bq4 := sp_cnt_le (sp_pb g) (by omega)
      refine jt_go jm_m222 61 2 (f' := (134, [(0, .inr (.inr (4, 0, 0))), (1, .inl (nI n)), (2, .inl (z)), (3, .inl (nI w)), (4, .inl ((if w = 0 then sp_acc (sp_pm m g z) k else sp_acc (sp_os m g z) k))), (5, .inl (nI k)), (6, .inl (nI (g 0)))], [.inl ((nI (sp_cnt (sp_pb (sp_it ((sp_ng g (sp_sk g z k) (g 0)).1) m)))) - (nI (sp_cnt (sp_pb g)))), .inl ((if w = 0 then sp_acc (sp_pm m g z) k else sp_acc (sp_os m g z) k))], h2)) (P := True) rfl trivial ?_
      refine jt_go jm_m222 68 2 (f' := (137, [(4, .inl ((if w = 0 then sp_acc (sp_pm m g z) k else sp_acc (sp_os m g z) k) + ((nI (sp_cnt (sp_pb (sp_it ((sp_ng g (sp_sk g z k) (g 0)).1) m)))) - (nI (sp_cnt (sp_pb g)))))), (0, .inr (.inr (4, 0, 0))), (1, .inl (nI n)), (2, .inl (z)), (3, .inl (nI w)), (5, .inl (nI k)), (6, .inl (nI (g 0)))], [], h2)) (P := True) rfl trivial ?_
      refine jt_inc jm_m222 70 (c := k) (L' := [(5, .inl (nI (k + 1))), (4, .inl ((if w = 0 then sp_acc (sp_pm m g z) k else sp_acc (sp_os m g z) k) + ((nI (sp_cnt (sp_pb (sp_it ((sp_ng g (sp_sk g z k) (g 0)).1) m)))) - (nI (sp_cnt (sp_pb g)))))), (0, .inr (.inr (4, 0, 0))), (1, .inl (nI n)), (2, .inl (z)), (3, .inl (nI w)), (6, .inl (nI (g 0)))]) rfl rfl rfl rfl ?_
      refine jt_go jm_m222 71 1 (f' := (32, [(5, .inl (nI (k + 1))), (4, .inl ((if w = 0 then sp_acc (sp_pm m g z) k else sp_acc (sp_os m g z) k) + ((nI (sp_cnt (sp_pb (sp_it ((sp_ng g (sp_sk g z k) (g 0)).1) m)))) - (nI (sp_cnt (sp_pb g)))))), (0, .inr (.inr (4, 0, 0))), (1, .inl (nI n)), (2, .inl (z)), (3, .inl (nI w)), (6, .inl (nI (g 0)))], [], h2)) (P := True) rfl trivial ?_
      refine jt_pick (L' := [(0, .inr (.inr (4, 0, 0))), (1, .inl (nI n)), (2, .inl (z)), (3, .inl (nI w)), (4, .inl ((if w = 0 then sp_acc (sp_pm m g z) k else sp_acc (sp_os m g z) k) + ((nI (sp_cnt (sp_pb (sp_it ((sp_ng g (sp_sk g z k) (g 0)).1) m)))) - (nI (sp_cnt (sp_pb g)))))), (5, .inl (nI (k + 1)))]) [2, 3, 4, 5, 1, 0] rfl ?_
      have e : (if w = 0 then sp_acc (sp_pm m g z) (k + 1) else sp_acc (sp_os m g z) (k + 1)) = (if w = 0 then sp_acc (sp_pm m g z) k else sp_acc (sp_os m g z) k) + ((nI (sp_cnt (sp_pb (sp_it ((sp_ng g (sp_sk g z k) (g 0)).1) m)))) - (nI (sp_cnt (sp_pb g)))) := by rw [if_pos (by omega), if_pos (by omega)]; rfl
      have q := nx (by omega) h2 Zh2 (jo_tr Jh9 (jo_of Fh2)) ((congrFun (Fh2 (4, 0, 0) (by decide)) 10).trans Sh9)
      rw [e] at q
      exact q)
set_option maxHeartbeats 4000000 in
set_option maxRecDepth 20000 in
theorem cb_nights {h : jm_M} {g : Nat → Nat} (R : jg_rel h 0 g) (W : jw g) {x z v : Int32} : jt_T 222 (0, [(0, .inr (.inr (4, 0, 0))), (1, .inl (x)), (2, .inl (z)), (3, .inl (v))], [], h) (fun u h' => u = some (.inl (za_nights g x z v)) ∧ jo_fr h h') := by
  have bn := jw_n W
  have bm := jw_m W
  have bt := jw_t W
  refine jt_go jm_m222 0 3 (f' := (4, [(0, .inr (.inr (4, 0, 0))), (1, .inl (x)), (2, .inl (z)), (3, .inl (v))], [.inl (nI 20), .inl (nI 1), .inl (x)], h)) (P := True) rfl trivial ?_
  refine jt_callp (w := .inl (jm_b (nI 1 ≤ x ∧ x ≤ nI 20))) jm_m222 3 (mi' := 143) (as := [.inl (x), .inl (nI 1), .inl (nI 20)]) (rest := []) (nxt := 7) rfl rfl jm_m143 rfl rfl (tb_isIn) ?_
  refine jt_ifbeq jm_m222 4 (tgt := 19) (nxt := 10) rfl rfl rfl (fun c7 => ?_) (fun c7 => ?_)
  · refine jt_go jm_m222 10 1 (f' := (20, [(0, .inr (.inr (4, 0, 0))), (1, .inl (x)), (2, .inl (z)), (3, .inl (v))], [.inl ((-1))], h)) (P := True) rfl trivial ?_
    refine jt_iret jm_m222 11 rfl ?_
    exact ⟨jt_li (if_neg (fun z => c7 z.1)).symm, jo_rf⟩
  · obtain ⟨n, gn, hbn, rfl⟩ := jx_win2 (by decide) (by decide) c7
    refine jt_go jm_m222 5 3 (f' := (13, [(0, .inr (.inr (4, 0, 0))), (1, .inl (nI n)), (2, .inl (z)), (3, .inl (v))], [.inl (nI 1), .inl (nI 0), .inl (v)], h)) (P := True) rfl trivial ?_
    refine jt_callp (w := .inl (jm_b (nI 0 ≤ v ∧ v ≤ nI 1))) jm_m222 8 (mi' := 143) (as := [.inl (v), .inl (nI 0), .inl (nI 1)]) (rest := []) (nxt := 16) rfl rfl jm_m143 rfl rfl (tb_isIn) ?_
    refine jt_ifbne jm_m222 9 (tgt := 21) (nxt := 19) rfl rfl rfl (fun c16 => ?_) (fun c16 => ?_)
    · obtain ⟨w, hbw, rfl⟩ := jx_win (by decide) c16
      refine jt_goM jm_m222 12 3 (pc' := 26) (L' := [(0, .inr (.inr (4, 0, 0))), (1, .inl (nI n)), (2, .inl (z)), (3, .inl (nI w))]) (st' := []) (m' := jm_set h (4, 0, 0) (upd (h (4, 0, 0)) 10 z)) (P := True) rfl trivial (fun h1 eh1 => ?_)
      have Zh1 : jg_rel h1 0 g := by rw [eh1]; exact jg_slot R
      have Fh1 : jo_fr h h1 := by rw [eh1]; exact jo_slot (by decide)
      have Sh1 : h1 (4, 0, 0) 10 = z := by rw [eh1, jm_set_eq, jx_eq]
      refine jt_go jm_m222 15 4 (f' := (32, [(5, .inl (nI 0)), (4, .inl (nI 0)), (0, .inr (.inr (4, 0, 0))), (1, .inl (nI n)), (2, .inl (z)), (3, .inl (nI w))], [], h1)) (P := True) rfl trivial ?_
      refine jt_pick (L' := [(0, .inr (.inr (4, 0, 0))), (1, .inl (nI n)), (2, .inl (z)), (3, .inl (nI w)), (4, .inl (nI 0)), (5, .inl (nI 0))]) [2, 3, 4, 5, 1, 0] rfl ?_
      have e0 : nI 0 = (if w = 0 then sp_acc (sp_pm 10 g z) 0 else sp_acc (sp_os 10 g z) 0) := by split <;> rfl
      refine jt_eL (L' := [(0, .inr (.inr (4, 0, 0))), (1, .inl (nI n)), (2, .inl (z)), (3, .inl (nI w)), (4, .inl ((if w = 0 then sp_acc (sp_pm 10 g z) 0 else sp_acc (sp_os 10 g z) 0))), (5, .inl (nI 0))]) (by rw [← e0]) ?_
      refine jt_mono (cb_nights_l (m := 10) W hbn hbw rfl 0 (Nat.zero_le _) _ Zh1 Fh1 Sh1) (fun u h2 zz => ⟨zz.1.trans (jt_li ?_), zz.2⟩)
      unfold za_nights
      refine Eq.trans ?_ (if_pos ⟨c7, c16⟩).symm
      rw [nI_clamp (n := n) (by omega), nI_clamp (n := w) (by omega)]
      unfold zb_nights
      first | done | with_reducible rfl
    · refine jt_go jm_m222 10 1 (f' := (20, [(0, .inr (.inr (4, 0, 0))), (1, .inl (nI n)), (2, .inl (z)), (3, .inl (v))], [.inl ((-1))], h)) (P := True) rfl trivial ?_
      refine jt_iret jm_m222 11 rfl ?_
      exact ⟨jt_li (if_neg (fun z => c16 z.2)).symm, jo_rf⟩
