/-! THE FACE: deserted, two. -/
theorem jx_all1 : (-1 : Int32).toBitVec = BitVec.allOnes 32 := by decide
theorem jx_ds (V P b : Int32) : (V &&& (P ^^^ (-1))) &&& (b ^^^ (-1)) = V &&& ((P ||| b) ^^^ (-1)) := by
  apply Int32.toBitVec_inj.mp
  simp only [Int32.toBitVec_and, Int32.toBitVec_xor, Int32.toBitVec_or, jx_all1]
  ext i hi
  simp only [BitVec.getElem_and, BitVec.getElem_xor, BitVec.getElem_or, BitVec.getElem_allOnes]
  cases V.toBitVec[i] <;> cases P.toBitVec[i] <;> cases b.toBitVec[i] <;> rfl
theorem jx_ds0 (V : Int32) : V &&& ((0 : Int32) ^^^ (-1)) = V := by
  apply Int32.toBitVec_inj.mp
  simp only [Int32.toBitVec_and, Int32.toBitVec_xor, jx_all1]
  ext i hi
  simp only [BitVec.getElem_and, BitVec.getElem_xor, BitVec.getElem_allOnes]
  cases V.toBitVec[i] <;> simp
theorem jx_dsc (V : Int32) : V &&& nI 65535 = nI 65535 &&& V := by
  apply Int32.toBitVec_inj.mp
  simp only [Int32.toBitVec_and]
  exact BitVec.and_comm _ _
/-- the places at which cats were behind 0 .. k hours -/
def sp_vis (g : Nat → Nat) : Nat → Int32
  | 0 => sp_plc g (g 0)
  | k + 1 => sp_vis g k ||| sp_plc (sp_it g (k + 1)) (sp_it g (k + 1) 0)
/-- the others, as the reference takes them away -/
def sp_smi (V : Int32) (g : Nat → Nat) : Nat → Int32
  | 0 => V
  | k + 1 => sp_smi V g k &&& ((nI 1 <<< (nI (g (38 + 5 * k)) &&& 31)) ^^^ (-1))
def sp_sm (g : Nat → Nat) : Nat → Int32
  | 0 => nI 65535
  | k + 1 => sp_smi (sp_sm g k) (sp_it g k) (sp_it g k 0)
theorem sp_smi_eq (V : Int32) (g : Nat → Nat) : ∀ k, sp_smi V g k = V &&& (sp_plc g k ^^^ (-1)) := by
  intro k
  induction k with
  | zero => exact (jx_ds0 V).symm
  | succ k ih =>
    show sp_smi V g k &&& _ = _
    rw [ih, jx_ds]
    rfl
theorem sp_sm_eq (g : Nat → Nat) : ∀ k, sp_sm g (k + 1) = (sp_vis g k ^^^ (-1)) &&& nI 65535 := by
  intro k
  induction k with
  | zero =>
    show sp_smi (nI 65535) g (g 0) = _
    rw [sp_smi_eq, jx_dsc]
    rfl
  | succ k ih =>
    show sp_smi (sp_sm g (k + 1)) (sp_it g (k + 1)) (sp_it g (k + 1) 0) = _
    rw [sp_smi_eq, ih, jx_dsc, jx_ds, jx_dsc]
    rfl
set_option maxHeartbeats 4000000 in
set_option maxRecDepth 20000 in
theorem ca_des_l {h : jm_M} {g : Nat → Nat} (W : jw g) {n : Nat} (hnn : n ≤ 99) : ∀ k, k ≤ n → ∀ hm : jm_M, (jf_rel hm 1 (sp_it g k)) → (jf_fr 1 h hm) → jt_T 99 (30, [(0, .inr (.inr (0, 0, 0))), (1, .inl (nI n)), (2, .inl (sp_vis g k)), (3, .inl (nI (k + 1)))], [], hm) (fun u h' => u = some (.inl ((sp_vis g n ^^^ (-1)) &&& nI 65535)) ∧ jf_fr 1 h h') := jx_up (P := fun k => ∀ hm : jm_M, (jf_rel hm 1 (sp_it g k)) → (jf_fr 1 h hm) → jt_T 99 (30, [(0, .inr (.inr (0, 0, 0))), (1, .inl (nI n)), (2, .inl (sp_vis g k)), (3, .inl (nI (k + 1)))], [], hm) (fun u h' => u = some (.inl ((sp_vis g n ^^^ (-1)) &&& nI 65535)) ∧ jf_fr 1 h h')) (fun k hk nx hm Rm Fm => by
  have Wk := (jw_it W k).1
  have e0 := (jw_it W k).2.1
  have e1 := (jw_it W k).2.2
  have bn := jw_n W
  have bm := jw_m W
  refine jt_go jm_m99 16 2 (f' := (32, [(0, .inr (.inr (0, 0, 0))), (1, .inl (nI n)), (2, .inl (sp_vis g k)), (3, .inl (nI (k + 1)))], [.inl (nI n), .inl (nI (k + 1))], hm)) (P := True) rfl trivial ?_
  refine jt_nicgt jm_m99 18 (a := k + 1) (b := n) (by omega) (by omega) (tgt := 58) (nxt := 35) rfl rfl rfl (fun c32 => ?_) (fun c32 => ?_)
  · refine jt_go jm_m99 30 5 (f' := (64, [(0, .inr (.inr (0, 0, 0))), (1, .inl (nI n)), (2, .inl (sp_vis g k)), (3, .inl (nI (k + 1)))], [.inl (((sp_vis g k) ^^^ (-1)) &&& (nI 65535))], hm)) (P := True) rfl trivial ?_
    refine jt_iret jm_m99 35 rfl ?_
    have e : k = n := by omega
    subst e
    exact ⟨rfl, Fm⟩
  · refine jt_go jm_m99 19 2 (f' := (39, [(0, .inr (.inr (0, 0, 0))), (1, .inl (nI n)), (2, .inl (sp_vis g k)), (3, .inl (nI (k + 1)))], [.inr (.inr (2, 1, 0))], hm)) (P := True) rfl trivial ?_
    refine jt_call jm_m99 21 (mi' := 18) (as := [.inr (.inr (2, 1, 0))]) (rest := []) (nxt := 42) rfl rfl jm_m18 rfl rfl (ta_hour Rm Wk) ?_
    rintro u h1 ⟨rfl, Rh1, Fh1, Ch1⟩
    show jt_T 99 (42, [(0, .inr (.inr (0, 0, 0))), (1, .inl (nI n)), (2, .inl (sp_vis g k)), (3, .inl (nI (k + 1)))], [], h1) _
    have Rh1 : jf_rel h1 1 (sp_it g (k + 1)) := Rh1
    have Wh1 := (jw_it W (k + 1)).1
    have uh1 := sp_set_lt Wk (kept := false)
    have Fh1 := jf_fr_tr Fm Fh1
    refine jt_go jm_m99 22 3 (f' := (47, [(0, .inr (.inr (0, 0, 0))), (1, .inl (nI n)), (2, .inl (sp_vis g k)), (3, .inl (nI (k + 1)))], [.inr (.inr (2, 1, 0)), .inl (sp_vis g k)], h1)) (P := True) rfl trivial ?_
    refine jt_callp (w := .inl (sp_plc (sp_it g (k + 1)) ((sp_it g (k + 1)) 0))) jm_m99 25 (mi' := 29) (as := [.inr (.inr (2, 1, 0))]) (rest := [.inl (sp_vis g k)]) (nxt := 50) rfl rfl jm_m29 rfl rfl (ta_plc Rh1 Wh1) ?_
    refine jt_go jm_m99 26 2 (f' := (52, [(2, .inl ((sp_vis g k) ||| (sp_plc (sp_it g (k + 1)) ((sp_it g (k + 1)) 0)))), (0, .inr (.inr (0, 0, 0))), (1, .inl (nI n)), (3, .inl (nI (k + 1)))], [], h1)) (P := True) rfl trivial ?_
    refine jt_inc jm_m99 28 (c := k + 1) (L' := [(3, .inl (nI (k + 1 + 1))), (2, .inl ((sp_vis g k) ||| (sp_plc (sp_it g (k + 1)) ((sp_it g (k + 1)) 0)))), (0, .inr (.inr (0, 0, 0))), (1, .inl (nI n))]) rfl rfl rfl rfl ?_
    refine jt_go jm_m99 29 1 (f' := (30, [(3, .inl (nI (k + 1 + 1))), (2, .inl ((sp_vis g k) ||| (sp_plc (sp_it g (k + 1)) ((sp_it g (k + 1)) 0)))), (0, .inr (.inr (0, 0, 0))), (1, .inl (nI n))], [], h1)) (P := True) rfl trivial ?_
    refine jt_pick (L' := [(0, .inr (.inr (0, 0, 0))), (1, .inl (nI n)), (2, .inl ((sp_vis g k) ||| (sp_plc (sp_it g (k + 1)) ((sp_it g (k + 1)) 0)))), (3, .inl (nI (k + 1 + 1)))]) [2, 3, 1, 0] rfl ?_
    exact nx (by omega) h1 Rh1 Fh1)
set_option maxHeartbeats 4000000 in
set_option maxRecDepth 20000 in
theorem cb_des_i {hm : jm_M} {g : Nat → Nat} {V : Int32} {n k : Nat} {Q : Option jm_V → jm_M → Prop} (W : jw g) (Rm : jg_rel hm 1 g) (hend : jt_T 203 (71, [(0, .inr (.inr (4, 0, 0))), (1, .inl (nI n)), (2, .inl (sp_smi V g (g 0))), (3, .inl (nI k)), (4, .inl (nI (g 0)))], [], hm) Q) : ∀ c, c ≤ g 0 → jt_T 203 (36, [(0, .inr (.inr (4, 0, 0))), (1, .inl (nI n)), (2, .inl (sp_smi V g c)), (3, .inl (nI k)), (4, .inl (nI c))], [], hm) Q := jx_up (P := fun c => jt_T 203 (36, [(0, .inr (.inr (4, 0, 0))), (1, .inl (nI n)), (2, .inl (sp_smi V g c)), (3, .inl (nI k)), (4, .inl (nI c))], [], hm) Q) (fun c hk nx => by
  have bn := jw_n W
  refine jt_go jm_m203 21 5 (f' := (44, [(0, .inr (.inr (4, 0, 0))), (1, .inl (nI n)), (2, .inl (sp_smi V g c)), (3, .inl (nI k)), (4, .inl (nI c))], [.inl (hm (5, 1, 0) (nI 0).toNatClampNeg), .inl (nI c)], hm)) (P := vp_in (nI 0) 78 ∧ True) rfl ⟨(vp_in_nI (by omega) (by decide)), trivial⟩ ?_
  refine jt_ti (show (hm (5, 1, 0) (nI 0).toNatClampNeg) = nI (g 0) from jg_get Rm (k := 0) (nI_clamp (by omega)) (by omega)) ?_
  have bq1 := jw_n W
  refine jt_nicge jm_m203 26 (a := c) (b := g 0) (by omega) (by omega) (tgt := 71) (nxt := 47) rfl rfl rfl (fun c44 => ?_) (fun c44 => ?_)
  · refine jt_pick (L' := [(0, .inr (.inr (4, 0, 0))), (1, .inl (nI n)), (2, .inl (sp_smi V g c)), (3, .inl (nI k)), (4, .inl (nI c))]) [0, 1, 2, 3, 4] rfl ?_
    have e : c = g 0 := by omega
    subst e
    exact hend
  · refine jt_go jm_m203 27 6 (f' := (56, [(0, .inr (.inr (4, 0, 0))), (1, .inl (nI n)), (2, .inl (sp_smi V g c)), (3, .inl (nI k)), (4, .inl (nI c))], [.inl (nI 2), .inl (nI c), .inr (.inr (5, 1, 0)), .inl (nI 1), .inl (sp_smi V g c)], hm)) (P := True) rfl trivial ?_
    refine jt_callp (w := .inl (nI (38 + 5 * c))) jm_m203 33 (mi' := 147) (as := [.inl (nI c), .inl (nI 2)]) (rest := [.inr (.inr (5, 1, 0)), .inl (nI 1), .inl (sp_smi V g c)]) (nxt := 59) rfl rfl jm_m147 rfl rfl (tb_ofC (k := 38 + 5 * c) (by omega)) ?_
    refine jt_go jm_m203 34 1 (f' := (60, [(0, .inr (.inr (4, 0, 0))), (1, .inl (nI n)), (2, .inl (sp_smi V g c)), (3, .inl (nI k)), (4, .inl (nI c))], [.inl (hm (5, 1, 0) (nI (38 + 5 * c)).toNatClampNeg), .inl (nI 1), .inl (sp_smi V g c)], hm)) (P := vp_in (nI (38 + 5 * c)) 78 ∧ True) rfl ⟨(vp_in_nI (by omega) (by decide)), trivial⟩ ?_
    refine jt_ti (show (hm (5, 1, 0) (nI (38 + 5 * c)).toNatClampNeg) = nI (g (38 + 5 * c)) from jg_get Rm (k := 38 + 5 * c) (nI_clamp (by omega)) (by omega)) ?_
    have bq2 := jw_at W (c := c) (by omega)
    refine jt_go jm_m203 35 5 (f' := (65, [(2, .inl ((sp_smi V g c) &&& (((nI 1) <<< ((nI (g (38 + 5 * c))) &&& 31)) ^^^ (-1)))), (0, .inr (.inr (4, 0, 0))), (1, .inl (nI n)), (3, .inl (nI k)), (4, .inl (nI c))], [], hm)) (P := True) rfl trivial ?_
    refine jt_inc jm_m203 40 (c := c) (L' := [(4, .inl (nI (c + 1))), (2, .inl ((sp_smi V g c) &&& (((nI 1) <<< ((nI (g (38 + 5 * c))) &&& 31)) ^^^ (-1)))), (0, .inr (.inr (4, 0, 0))), (1, .inl (nI n)), (3, .inl (nI k))]) rfl rfl rfl rfl ?_
    refine jt_go jm_m203 41 1 (f' := (36, [(4, .inl (nI (c + 1))), (2, .inl ((sp_smi V g c) &&& (((nI 1) <<< ((nI (g (38 + 5 * c))) &&& 31)) ^^^ (-1)))), (0, .inr (.inr (4, 0, 0))), (1, .inl (nI n)), (3, .inl (nI k))], [], hm)) (P := True) rfl trivial ?_
    refine jt_pick (L' := [(0, .inr (.inr (4, 0, 0))), (1, .inl (nI n)), (2, .inl ((sp_smi V g c) &&& (((nI 1) <<< ((nI (g (38 + 5 * c))) &&& 31)) ^^^ (-1)))), (3, .inl (nI k)), (4, .inl (nI (c + 1)))]) [2, 3, 1, 4, 0] rfl ?_
    exact nx (by omega))
set_option maxHeartbeats 4000000 in
set_option maxRecDepth 20000 in
theorem cb_des_l {h : jm_M} {g : Nat → Nat} (W : jw g) {n : Nat} (hnn : n ≤ 99) : ∀ k, k ≤ (n + 1) → ∀ hm : jm_M, (jg_rel hm 1 (sp_it g k)) → (jg_fr 1 h hm) → jt_T 203 (28, [(0, .inr (.inr (4, 0, 0))), (1, .inl (nI n)), (2, .inl (sp_sm g k)), (3, .inl (nI k))], [], hm) (fun u h' => u = some (.inl (sp_sm g (n + 1))) ∧ jg_fr 1 h h') := jx_up (P := fun k => ∀ hm : jm_M, (jg_rel hm 1 (sp_it g k)) → (jg_fr 1 h hm) → jt_T 203 (28, [(0, .inr (.inr (4, 0, 0))), (1, .inl (nI n)), (2, .inl (sp_sm g k)), (3, .inl (nI k))], [], hm) (fun u h' => u = some (.inl (sp_sm g (n + 1))) ∧ jg_fr 1 h h')) (fun k hk nx hm Rm Fm => by
  have Wk := (jw_it W k).1
  have e0 := (jw_it W k).2.1
  have e1 := (jw_it W k).2.2
  have bn := jw_n W
  have bm := jw_m W
  refine jt_go jm_m203 16 2 (f' := (30, [(0, .inr (.inr (4, 0, 0))), (1, .inl (nI n)), (2, .inl (sp_sm g k)), (3, .inl (nI k))], [.inl (nI n), .inl (nI k)], hm)) (P := True) rfl trivial ?_
  refine jt_nicgt jm_m203 18 (a := k) (b := n) (by omega) (by omega) (tgt := 87) (nxt := 33) rfl rfl rfl (fun c30 => ?_) (fun c30 => ?_)
  · refine jt_go jm_m203 49 1 (f' := (88, [(0, .inr (.inr (4, 0, 0))), (1, .inl (nI n)), (2, .inl (sp_sm g k)), (3, .inl (nI k))], [.inl (sp_sm g k)], hm)) (P := True) rfl trivial ?_
    refine jt_iret jm_m203 50 rfl ?_
    have e : k = n + 1 := by omega
    subst e
    exact ⟨rfl, Fm⟩
  · refine jt_go jm_m203 19 2 (f' := (36, [(4, .inl (nI 0)), (0, .inr (.inr (4, 0, 0))), (1, .inl (nI n)), (2, .inl (sp_sm g k)), (3, .inl (nI k))], [], hm)) (P := True) rfl trivial ?_
    refine jt_pick (L' := [(0, .inr (.inr (4, 0, 0))), (1, .inl (nI n)), (2, .inl (sp_sm g k)), (3, .inl (nI k)), (4, .inl (nI 0))]) [1, 2, 3, 4, 0] rfl ?_
    refine cb_des_i (V := sp_sm g k) (n := n) (k := k) Wk Rm ?_ 0 (Nat.zero_le _)
    show jt_T 203 (71, [(0, .inr (.inr (4, 0, 0))), (1, .inl (nI n)), (2, .inl (sp_sm g (k + 1))), (3, .inl (nI k)), (4, .inl (nI (sp_it g k 0)))], [], hm) _
    refine jt_go jm_m203 42 3 (f' := (76, [(0, .inr (.inr (4, 0, 0))), (1, .inl (nI n)), (2, .inl (sp_sm g (k + 1))), (3, .inl (nI k)), (4, .inl (nI (sp_it g k 0)))], [.inl (nI 0), .inr (.inr (5, 1, 0))], hm)) (P := True) rfl trivial ?_
    refine jt_call jm_m203 45 (mi' := 163) (as := [.inr (.inr (5, 1, 0)), .inl (nI 0)]) (rest := []) (nxt := 79) rfl rfl jm_m163 rfl rfl (tb_hour0 Rm Wk) ?_
    rintro u h1 ⟨rfl, Rh1, Fh1⟩
    show jt_T 203 (79, [(0, .inr (.inr (4, 0, 0))), (1, .inl (nI n)), (2, .inl (sp_sm g (k + 1))), (3, .inl (nI k)), (4, .inl (nI (sp_it g k 0)))], [.inl (nI (sp_set (sp_it g k) false))], h1) _
    have Rh1 : jg_rel h1 1 (sp_it g (k + 1)) := Rh1
    have Wh1 := (jw_it W (k + 1)).1
    have uh1 := sp_set_lt Wk (kept := false)
    have Fh1 := jg_fr_tr Fm Fh1
    refine jt_go jm_m203 46 1 (f' := (81, [(4, .inl (nI (sp_set (sp_it g k) false))), (0, .inr (.inr (4, 0, 0))), (1, .inl (nI n)), (2, .inl (sp_sm g (k + 1))), (3, .inl (nI k))], [], h1)) (P := True) rfl trivial ?_
    refine jt_inc jm_m203 47 (c := k) (L' := [(3, .inl (nI (k + 1))), (4, .inl (nI (sp_set (sp_it g k) false))), (0, .inr (.inr (4, 0, 0))), (1, .inl (nI n)), (2, .inl (sp_sm g (k + 1)))]) rfl rfl rfl rfl ?_
    refine jt_go jm_m203 48 1 (f' := (28, [(3, .inl (nI (k + 1))), (4, .inl (nI (sp_set (sp_it g k) false))), (0, .inr (.inr (4, 0, 0))), (1, .inl (nI n)), (2, .inl (sp_sm g (k + 1)))], [], h1)) (P := True) rfl trivial ?_
    refine jt_pick (L' := [(0, .inr (.inr (4, 0, 0))), (1, .inl (nI n)), (2, .inl (sp_sm g (k + 1))), (3, .inl (nI (k + 1)))]) [2, 3, 4, 0] rfl ?_
    exact nx (by omega) h1 Rh1 Fh1)
def zb_deserted (g : Nat → Nat) (n : Nat) : Int32 := (sp_vis g n ^^^ (-1)) &&& nI 65535
def za_deserted (g : Nat → Nat) (x : Int32) : Int32 := if nI 0 ≤ x ∧ x ≤ nI 99 then zb_deserted g x.toNatClampNeg else (-1)
set_option maxHeartbeats 4000000 in
set_option maxRecDepth 20000 in
theorem ca_deserted {h : jm_M} {g : Nat → Nat} (R : jf_rel h 0 g) (W : jw g) {x : Int32} : jt_T 99 (0, [(0, .inr (.inr (0, 0, 0))), (1, .inl (x))], [], h) (fun u h' => u = some (.inl (za_deserted g x)) ∧ jf_fr 1 h h') := by
  have bn := jw_n W
  have bm := jw_m W
  have bt := jw_t W
  refine jt_go jm_m99 0 1 (f' := (1, [(0, .inr (.inr (0, 0, 0))), (1, .inl (x))], [.inl (x)], h)) (P := True) rfl trivial ?_
  refine jt_callp (w := .inl (jm_b (nI 0 ≤ x ∧ x ≤ nI 99))) jm_m99 1 (mi' := 141) (as := [.inl (x)]) (rest := []) (nxt := 4) rfl rfl jm_m141 rfl rfl (ta_ahead) ?_
  refine jt_ifbne jm_m99 2 (tgt := 9) (nxt := 7) rfl rfl rfl (fun c4 => ?_) (fun c4 => ?_)
  · obtain ⟨n, hbn, rfl⟩ := jx_win (by decide) c4
    refine jt_go jm_m99 5 4 (f' := (17, [(0, .inr (.inr (0, 0, 0))), (1, .inl (nI n))], [.inr (.inr (2, 0, 0)), .inr (.inr (2, 1, 0))], h)) (P := True) rfl trivial ?_
    refine jt_call jm_m99 9 (mi' := 6) (as := [.inr (.inr (2, 1, 0)), .inr (.inr (2, 0, 0))]) (rest := []) (nxt := 20) rfl rfl jm_m6 rfl rfl (ta_becomes R W (by decide)) ?_
    rintro u h1 ⟨rfl, Rh1, Fh1⟩
    show jt_T 99 (20, [(0, .inr (.inr (0, 0, 0))), (1, .inl (nI n))], [], h1) _
    have Rh1 : jf_rel h1 1 g := Rh1
    have Wh1 : jw (g) := W
    have Zh1 := jf_mov0 R Fh1
    refine jt_go jm_m99 10 2 (f' := (24, [(0, .inr (.inr (0, 0, 0))), (1, .inl (nI n))], [.inr (.inr (2, 1, 0))], h1)) (P := True) rfl trivial ?_
    refine jt_callp (w := .inl (sp_plc g (g 0))) jm_m99 12 (mi' := 29) (as := [.inr (.inr (2, 1, 0))]) (rest := []) (nxt := 27) rfl rfl jm_m29 rfl rfl (ta_plc Rh1 Wh1) ?_
    refine jt_go jm_m99 13 3 (f' := (30, [(3, .inl (nI 1)), (2, .inl (sp_plc g (g 0))), (0, .inr (.inr (0, 0, 0))), (1, .inl (nI n))], [], h1)) (P := True) rfl trivial ?_
    refine jt_pick (L' := [(0, .inr (.inr (0, 0, 0))), (1, .inl (nI n)), (2, .inl (sp_plc g (g 0))), (3, .inl (nI 1))]) [2, 3, 1, 0] rfl ?_
    refine jt_mono (ca_des_l (h := h1) W hbn 0 (Nat.zero_le _) _ Rh1 jf_fr_rf) (fun u h2 zz => ⟨zz.1.trans (jt_li ?_), jf_fr_tr Fh1 zz.2⟩)
    unfold za_deserted
    refine Eq.trans ?_ (if_pos c4).symm
    rw [nI_clamp (n := n) (by omega)]
    unfold zb_deserted
    first | done | rfl
  · refine jt_go jm_m99 3 1 (f' := (8, [(0, .inr (.inr (0, 0, 0))), (1, .inl (x))], [.inl ((-1))], h)) (P := True) rfl trivial ?_
    refine jt_iret jm_m99 4 rfl ?_
    exact ⟨jt_li (if_neg (fun z => c4 z)).symm, jf_fr_rf⟩
set_option maxHeartbeats 4000000 in
set_option maxRecDepth 20000 in
theorem cb_deserted {h : jm_M} {g : Nat → Nat} (R : jg_rel h 0 g) (W : jw g) {x : Int32} : jt_T 203 (0, [(0, .inr (.inr (4, 0, 0))), (1, .inl (x))], [], h) (fun u h' => u = some (.inl (za_deserted g x)) ∧ jg_fr 1 h h') := by
  have bn := jw_n W
  have bm := jw_m W
  have bt := jw_t W
  refine jt_go jm_m203 0 3 (f' := (4, [(0, .inr (.inr (4, 0, 0))), (1, .inl (x))], [.inl (nI 99), .inl (nI 0), .inl (x)], h)) (P := True) rfl trivial ?_
  refine jt_callp (w := .inl (jm_b (nI 0 ≤ x ∧ x ≤ nI 99))) jm_m203 3 (mi' := 143) (as := [.inl (x), .inl (nI 0), .inl (nI 99)]) (rest := []) (nxt := 7) rfl rfl jm_m143 rfl rfl (tb_isIn) ?_
  refine jt_ifbne jm_m203 4 (tgt := 12) (nxt := 10) rfl rfl rfl (fun c7 => ?_) (fun c7 => ?_)
  · obtain ⟨n, hbn, rfl⟩ := jx_win (by decide) c7
    refine jt_go jm_m203 7 4 (f' := (20, [(0, .inr (.inr (4, 0, 0))), (1, .inl (nI n))], [.inr (.inr (5, 1, 0)), .inr (.inr (5, 0, 0))], h)) (P := True) rfl trivial ?_
    refine jt_call jm_m203 11 (mi' := 146) (as := [.inr (.inr (5, 0, 0)), .inr (.inr (5, 1, 0))]) (rest := []) (nxt := 23) rfl rfl jm_m146 rfl rfl (tb_copies R (by decide)) ?_
    rintro u h1 ⟨rfl, Rh1, Fh1⟩
    show jt_T 203 (23, [(0, .inr (.inr (4, 0, 0))), (1, .inl (nI n))], [], h1) _
    have Rh1 : jg_rel h1 1 g := Rh1
    have Wh1 : jw (g) := W
    have Zh1 := jg_mov0 R Fh1
    refine jt_go jm_m203 12 4 (f' := (28, [(3, .inl (nI 0)), (2, .inl (nI 65535)), (0, .inr (.inr (4, 0, 0))), (1, .inl (nI n))], [], h1)) (P := True) rfl trivial ?_
    refine jt_pick (L' := [(0, .inr (.inr (4, 0, 0))), (1, .inl (nI n)), (2, .inl (nI 65535)), (3, .inl (nI 0))]) [2, 3, 1, 0] rfl ?_
    refine jt_mono ((by rw [← sp_sm_eq]; exact cb_des_l (h := h1) W hbn 0 (Nat.zero_le _) _ Rh1 jg_fr_rf : jt_T 203 (28, [(0, .inr (.inr (4, 0, 0))), (1, .inl (nI n)), (2, .inl (nI 65535)), (3, .inl (nI 0))], [], h1) (fun u h2 => u = some (.inl ((sp_vis g n ^^^ (-1)) &&& nI 65535)) ∧ jg_fr 1 h1 h2))) (fun u h2 zz => ⟨zz.1.trans (jt_li ?_), jg_fr_tr Fh1 zz.2⟩)
    unfold za_deserted
    refine Eq.trans ?_ (if_pos c7).symm
    rw [nI_clamp (n := n) (by omega)]
    unfold zb_deserted
    first | done | rfl
  · refine jt_go jm_m203 5 1 (f' := (11, [(0, .inr (.inr (4, 0, 0))), (1, .inl (x))], [.inl ((-1))], h)) (P := True) rfl trivial ?_
    refine jt_iret jm_m203 6 rfl ?_
    exact ⟨jt_li (if_neg (fun z => c7 z)).symm, jg_fr_rf⟩
def sp_r2 (g : Nat → Nat) (x y : Nat) : Nat → Nat := sp_af (sp_af g 7 (x * 3)) 8 (y * 3)
def sp_s1 (g : Nat → Nat) (x y n : Nat) : Nat := sp_sum (fun c => sp_sd (sp_it (sp_r2 g x y) n (38 + 5 * c))) (g 0)
theorem jw_r2 {g : Nat → Nat} (W : jw g) {x y : Nat} : jw (sp_r2 g x y) := jw_af (jw_af W (by decide)) (by decide)
theorem sp_r2_0 {g : Nat → Nat} {x y : Nat} : sp_r2 g x y 0 = g 0 := (sp_af_ne (by decide)).trans (sp_af_ne (by decide))
theorem sp_af_0 {g : Nat → Nat} (W : jw g) {k : Nat} (hk : k < 16) : sp_af g k 0 = g := sp_up_self (by have := jw_fish W hk; omega)
theorem sp_s1_le {g : Nat → Nat} (x y n : Nat) : sp_s1 g x y n ≤ g 0 := by
  have := sp_sum_le (f := fun c => sp_sd (sp_it (sp_r2 g x y) n (38 + 5 * c))) (M := 1) (g 0) (fun k _ => sp_sd_le _)
  unfold sp_s1
  omega
theorem sp_sum_1 (f : Nat → Nat) (n : Nat) (h : ∀ k, f k ≤ 1) : sp_sum (fun c => if f c = 1 then 1 else 0) n = sp_sum f n := by
  induction n with
  | zero => rfl
  | succ n ih =>
    show sp_sum _ n + (if f n = 1 then 1 else 0) = sp_sum f n + f n
    rw [ih]
    have := h n
    split <;> omega
theorem sp_sum_0 (f : Nat → Nat) (n : Nat) (h : ∀ k, f k ≤ 1) : sp_sum (fun c => if f c = 0 then 1 else 0) n = n - sp_sum f n ∧ sp_sum f n ≤ n := by
  induction n with
  | zero => exact ⟨rfl, Nat.le_refl _⟩
  | succ n ih =>
    have e1 : sp_sum (fun c => if f c = 0 then 1 else 0) (n + 1) = sp_sum (fun c => if f c = 0 then 1 else 0) n + (if f n = 0 then 1 else 0) := rfl
    have e2 : sp_sum f (n + 1) = sp_sum f n + f n := rfl
    rw [e1, e2]
    have := h n
    split <;> omega
set_option maxHeartbeats 4000000 in
set_option maxRecDepth 20000 in
theorem ca_s1 {h : jm_M} {g : Nat → Nat} (R : jf_rel h 0 g) (W : jw g) {x y n : Nat} (hx : x ≤ 1) (hy : y ≤ 1) (hnn : n ≤ 24) : jt_T 111 (0, [(0, .inr (.inr (0, 0, 0))), (1, .inl (nI x)), (2, .inl (nI y)), (3, .inl (nI n))], [], h) (fun u h' => u = some (.inl (nI (sp_s1 g x y n))) ∧ jf_fr 1 h h') := by
  have bn := jw_n W
  have bm := jw_m W
  have bt := jw_t W
  refine jt_go jm_m111 0 4 (f' := (8, [(0, .inr (.inr (0, 0, 0))), (1, .inl (nI x)), (2, .inl (nI y)), (3, .inl (nI n))], [.inr (.inr (2, 0, 0)), .inr (.inr (2, 1, 0))], h)) (P := True) rfl trivial ?_
  refine jt_call jm_m111 4 (mi' := 6) (as := [.inr (.inr (2, 1, 0)), .inr (.inr (2, 0, 0))]) (rest := []) (nxt := 11) rfl rfl jm_m6 rfl rfl (ta_becomes R W (by decide)) ?_
  rintro u h1 ⟨rfl, Rh1, Fh1⟩
  show jt_T 111 (11, [(0, .inr (.inr (0, 0, 0))), (1, .inl (nI x)), (2, .inl (nI y)), (3, .inl (nI n))], [], h1) _
  have Rh1 : jf_rel h1 1 g := Rh1
  have Wh1 : jw (g) := W
  have Zh1 := jf_mov0 R Fh1
  refine jt_go jm_m111 5 6 (f' := (20, [(0, .inr (.inr (0, 0, 0))), (1, .inl (nI x)), (2, .inl (nI y)), (3, .inl (nI n))], [.inl ((nI x) * (nI 3)), .inl (nI 7), .inr (.inr (2, 1, 0))], h1)) (P := True) rfl trivial ?_
  refine jt_ti (show ((nI x) * (nI 3)) = nI (x * 3) from nI_mul _ _) ?_
  refine jt_call jm_m111 11 (mi' := 16) (as := [.inr (.inr (2, 1, 0)), .inl (nI 7), .inl (nI (x * 3))]) (rest := []) (nxt := 23) rfl rfl jm_m16 rfl rfl (ta_addFish Rh1 Wh1 (by omega) (by omega)) ?_
  rintro u h2 ⟨rfl, Rh2, Fh2⟩
  show jt_T 111 (23, [(0, .inr (.inr (0, 0, 0))), (1, .inl (nI x)), (2, .inl (nI y)), (3, .inl (nI n))], [], h2) _
  have Rh2 : jf_rel h2 1 (sp_af g 7 (x * 3)) := Rh2
  have Wh2 : jw (sp_af g 7 (x * 3)) := jw_af Wh1 (by omega)
  have Zh2 := jf_mov0 Zh1 Fh2
  have Fh2 := jf_fr_tr Fh1 Fh2
  refine jt_go jm_m111 12 6 (f' := (32, [(0, .inr (.inr (0, 0, 0))), (1, .inl (nI x)), (2, .inl (nI y)), (3, .inl (nI n))], [.inl ((nI y) * (nI 3)), .inl (nI 8), .inr (.inr (2, 1, 0))], h2)) (P := True) rfl trivial ?_
  refine jt_ti (show ((nI y) * (nI 3)) = nI (y * 3) from nI_mul _ _) ?_
  refine jt_call jm_m111 18 (mi' := 16) (as := [.inr (.inr (2, 1, 0)), .inl (nI 8), .inl (nI (y * 3))]) (rest := []) (nxt := 35) rfl rfl jm_m16 rfl rfl (ta_addFish Rh2 Wh2 (by omega) (by omega)) ?_
  rintro u h3 ⟨rfl, Rh3, Fh3⟩
  show jt_T 111 (35, [(0, .inr (.inr (0, 0, 0))), (1, .inl (nI x)), (2, .inl (nI y)), (3, .inl (nI n))], [], h3) _
  have Rh3 : jf_rel h3 1 (sp_af (sp_af g 7 (x * 3)) 8 (y * 3)) := Rh3
  have Wh3 : jw (sp_af (sp_af g 7 (x * 3)) 8 (y * 3)) := jw_af Wh2 (by omega)
  have Zh3 := jf_mov0 Zh2 Fh3
  have Fh3 := jf_fr_tr Fh2 Fh3
  refine jt_go jm_m111 19 3 (f' := (40, [(0, .inr (.inr (0, 0, 0))), (1, .inl (nI x)), (2, .inl (nI y)), (3, .inl (nI n))], [.inl (nI n), .inr (.inr (2, 1, 0))], h3)) (P := True) rfl trivial ?_
  refine jt_call jm_m111 22 (mi' := 17) (as := [.inr (.inr (2, 1, 0)), .inl (nI n)]) (rest := []) (nxt := 43) rfl rfl jm_m17 rfl rfl (ta_goOn Rh3 Wh3 (by omega)) ?_
  rintro u h4 ⟨rfl, Rh4, Fh4⟩
  show jt_T 111 (43, [(0, .inr (.inr (0, 0, 0))), (1, .inl (nI x)), (2, .inl (nI y)), (3, .inl (nI n))], [], h4) _
  have Rh4 : jf_rel h4 1 (sp_it (sp_af (sp_af g 7 (x * 3)) 8 (y * 3)) n) := Rh4
  have Wh4 : jw (sp_it (sp_af (sp_af g 7 (x * 3)) 8 (y * 3)) n) := (jw_it Wh3 _).1
  have Zh4 := jf_mov0 Zh3 Fh4
  have Fh4 := jf_fr_tr Fh3 Fh4
  refine jt_go jm_m111 23 2 (f' := (47, [(0, .inr (.inr (0, 0, 0))), (1, .inl (nI x)), (2, .inl (nI y)), (3, .inl (nI n))], [.inr (.inr (2, 1, 0))], h4)) (P := True) rfl trivial ?_
  refine jt_callp (w := .inl (nI (sp_sum (fun c => sp_sd ((sp_it (sp_af (sp_af g 7 (x * 3)) 8 (y * 3)) n) (38 + 5 * c))) ((sp_it (sp_af (sp_af g 7 (x * 3)) 8 (y * 3)) n) 0)))) jm_m111 25 (mi' := 30) (as := [.inr (.inr (2, 1, 0))]) (rest := []) (nxt := 50) rfl rfl jm_m30 rfl rfl (ta_side1 Rh4 Wh4) ?_
  refine jt_iret jm_m111 26 rfl ?_
  refine ⟨jt_ln ?_, Fh4⟩
  unfold sp_s1
  rw [show sp_it (sp_af (sp_af g 7 (x * 3)) 8 (y * 3)) n 0 = g 0 from (jw_it (jw_r2 W (x := x) (y := y)) n).2.1.trans sp_r2_0]
  rfl
set_option maxHeartbeats 4000000 in
set_option maxRecDepth 20000 in
theorem cb_has0 {h : jm_M} {g : Nat → Nat} (R : jg_rel h 0 g) (W : jw g) {x y n : Nat} (hx : x ≤ 1) (hy : y ≤ 1) (hnn : n ≤ 24) : jt_T 213 (0, [(0, .inr (.inr (4, 0, 0))), (1, .inl (nI 0)), (2, .inl (nI x)), (3, .inl (nI y)), (4, .inl (nI n))], [], h) (fun u h' => u = some (.inl (nI (g 0 - sp_s1 g x y n))) ∧ jg_fr 1 h h') := by
  have bn := jw_n W
  have bm := jw_m W
  have bt := jw_t W
  refine jt_go jm_m213 0 4 (f' := (8, [(0, .inr (.inr (4, 0, 0))), (1, .inl (nI 0)), (2, .inl (nI x)), (3, .inl (nI y)), (4, .inl (nI n))], [.inr (.inr (5, 1, 0)), .inr (.inr (5, 0, 0))], h)) (P := True) rfl trivial ?_
  refine jt_call jm_m213 4 (mi' := 146) (as := [.inr (.inr (5, 0, 0)), .inr (.inr (5, 1, 0))]) (rest := []) (nxt := 11) rfl rfl jm_m146 rfl rfl (tb_copies R (by decide)) ?_
  rintro u h1 ⟨rfl, Rh1, Fh1⟩
  show jt_T 213 (11, [(0, .inr (.inr (4, 0, 0))), (1, .inl (nI 0)), (2, .inl (nI x)), (3, .inl (nI y)), (4, .inl (nI n))], [], h1) _
  have Rh1 : jg_rel h1 1 g := Rh1
  have Wh1 : jw (g) := W
  have Zh1 := jg_mov0 R Fh1
  refine jt_go jm_m213 5 2 (f' := (13, [(0, .inr (.inr (4, 0, 0))), (1, .inl (nI 0)), (2, .inl (nI x)), (3, .inl (nI y)), (4, .inl (nI n))], [.inl (nI 1), .inl (nI x)], h1)) (P := True) rfl trivial ?_
  refine jt_nicne jm_m213 7 (a := x) (b := 1) (by omega) (by omega) (tgt := 26) (nxt := 16) rfl rfl rfl (fun c13 => ?_) (fun c13 => ?_)
  · refine jt_go jm_m213 13 2 (f' := (28, [(0, .inr (.inr (4, 0, 0))), (1, .inl (nI 0)), (2, .inl (nI x)), (3, .inl (nI y)), (4, .inl (nI n))], [.inl (nI 1), .inl (nI y)], h1)) (P := True) rfl trivial ?_
    refine jt_nicne jm_m213 15 (a := y) (b := 1) (by omega) (by omega) (tgt := 41) (nxt := 31) rfl rfl rfl (fun c28 => ?_) (fun c28 => ?_)
    · refine jt_go jm_m213 21 3 (f' := (47, [(0, .inr (.inr (4, 0, 0))), (1, .inl (nI 0)), (2, .inl (nI x)), (3, .inl (nI y)), (4, .inl (nI n))], [.inl (nI n), .inr (.inr (5, 1, 0))], h1)) (P := True) rfl trivial ?_
      refine jt_call jm_m213 24 (mi' := 164) (as := [.inr (.inr (5, 1, 0)), .inl (nI n)]) (rest := []) (nxt := 50) rfl rfl jm_m164 rfl rfl (tb_goOn Rh1 Wh1 (by omega)) ?_
      rintro u h2 ⟨rfl, Rh2, Fh2⟩
      show jt_T 213 (50, [(0, .inr (.inr (4, 0, 0))), (1, .inl (nI 0)), (2, .inl (nI x)), (3, .inl (nI y)), (4, .inl (nI n))], [], h2) _
      have Rh2 : jg_rel h2 1 (sp_it g n) := Rh2
      have Wh2 : jw (sp_it g n) := (jw_it Wh1 _).1
      have Zh2 := jg_mov0 Zh1 Fh2
      have Fh2 := jg_fr_tr Fh1 Fh2
      refine jt_go jm_m213 25 4 (f' := (56, [(0, .inr (.inr (4, 0, 0))), (1, .inl (nI 0)), (2, .inl (nI x)), (3, .inl (nI y)), (4, .inl (nI n))], [.inl (nI 0), .inr (.inr (5, 1, 0)), .inr (.inr (4, 0, 0))], h2)) (P := True) rfl trivial ?_
      refine jt_callp (w := .inl (nI (sp_sum (fun c => if sp_sd ((sp_it g n) (38 + 5 * c)) = 0 then 1 else 0) ((sp_it g n) 0)))) jm_m213 29 (mi' := 212) (as := [.inr (.inr (4, 0, 0)), .inr (.inr (5, 1, 0)), .inl (nI 0)]) (rest := []) (nxt := 59) rfl rfl jm_m212 rfl rfl (tb_side Rh2 Wh2 (by omega)) ?_
      refine jt_iret jm_m213 30 rfl ?_
      have ex : x = 0 := by omega
      have ey : y = 0 := by omega
      have er : sp_r2 g x y = g := by rw [ex, ey]; unfold sp_r2; rw [sp_af_0 W (by decide), sp_af_0 W (by decide)]
      have e0 : sp_it g n 0 = g 0 := by rw [← er]; exact (jw_it (jw_r2 W) n).2.1.trans sp_r2_0
      refine ⟨jt_ln ?_, Fh2⟩
      rw [e0]
      unfold sp_s1
      rw [er]
      exact (sp_sum_0 _ _ (fun k => sp_sd_le _)).1
    · refine jt_go jm_m213 16 4 (f' := (38, [(0, .inr (.inr (4, 0, 0))), (1, .inl (nI 0)), (2, .inl (nI x)), (3, .inl (nI y)), (4, .inl (nI n))], [.inl (nI 3), .inl (nI 8), .inr (.inr (5, 1, 0))], h1)) (P := True) rfl trivial ?_
      refine jt_call jm_m213 20 (mi' := 198) (as := [.inr (.inr (5, 1, 0)), .inl (nI 8), .inl (nI 3)]) (rest := []) (nxt := 41) rfl rfl jm_m198 rfl rfl (tb_addFish Rh1 Wh1 (by omega) (by omega)) ?_
      rintro u h3 ⟨rfl, Rh3, Fh3⟩
      show jt_T 213 (41, [(0, .inr (.inr (4, 0, 0))), (1, .inl (nI 0)), (2, .inl (nI x)), (3, .inl (nI y)), (4, .inl (nI n))], [], h3) _
      have Rh3 : jg_rel h3 1 (sp_af g 8 3) := Rh3
      have Wh3 : jw (sp_af g 8 3) := jw_af Wh1 (by omega)
      have Zh3 := jg_mov0 Zh1 Fh3
      have Fh3 := jg_fr_tr Fh1 Fh3
      refine jt_go jm_m213 21 3 (f' := (47, [(0, .inr (.inr (4, 0, 0))), (1, .inl (nI 0)), (2, .inl (nI x)), (3, .inl (nI y)), (4, .inl (nI n))], [.inl (nI n), .inr (.inr (5, 1, 0))], h3)) (P := True) rfl trivial ?_
      refine jt_call jm_m213 24 (mi' := 164) (as := [.inr (.inr (5, 1, 0)), .inl (nI n)]) (rest := []) (nxt := 50) rfl rfl jm_m164 rfl rfl (tb_goOn Rh3 Wh3 (by omega)) ?_
      rintro u h4 ⟨rfl, Rh4, Fh4⟩
      show jt_T 213 (50, [(0, .inr (.inr (4, 0, 0))), (1, .inl (nI 0)), (2, .inl (nI x)), (3, .inl (nI y)), (4, .inl (nI n))], [], h4) _
      have Rh4 : jg_rel h4 1 (sp_it (sp_af g 8 3) n) := Rh4
      have Wh4 : jw (sp_it (sp_af g 8 3) n) := (jw_it Wh3 _).1
      have Zh4 := jg_mov0 Zh3 Fh4
      have Fh4 := jg_fr_tr Fh3 Fh4
      refine jt_go jm_m213 25 4 (f' := (56, [(0, .inr (.inr (4, 0, 0))), (1, .inl (nI 0)), (2, .inl (nI x)), (3, .inl (nI y)), (4, .inl (nI n))], [.inl (nI 0), .inr (.inr (5, 1, 0)), .inr (.inr (4, 0, 0))], h4)) (P := True) rfl trivial ?_
      refine jt_callp (w := .inl (nI (sp_sum (fun c => if sp_sd ((sp_it (sp_af g 8 3) n) (38 + 5 * c)) = 0 then 1 else 0) ((sp_it (sp_af g 8 3) n) 0)))) jm_m213 29 (mi' := 212) (as := [.inr (.inr (4, 0, 0)), .inr (.inr (5, 1, 0)), .inl (nI 0)]) (rest := []) (nxt := 59) rfl rfl jm_m212 rfl rfl (tb_side Rh4 Wh4 (by omega)) ?_
      refine jt_iret jm_m213 30 rfl ?_
      have ex : x = 0 := by omega
      have ey : y = 1 := by omega
      have er : sp_r2 g x y = (sp_af g 8 3) := by rw [ex, ey]; unfold sp_r2; rw [sp_af_0 W (by decide)]
      have e0 : sp_it (sp_af g 8 3) n 0 = g 0 := by rw [← er]; exact (jw_it (jw_r2 W) n).2.1.trans sp_r2_0
      refine ⟨jt_ln ?_, Fh4⟩
      rw [e0]
      unfold sp_s1
      rw [er]
      exact (sp_sum_0 _ _ (fun k => sp_sd_le _)).1
  · refine jt_go jm_m213 8 4 (f' := (23, [(0, .inr (.inr (4, 0, 0))), (1, .inl (nI 0)), (2, .inl (nI x)), (3, .inl (nI y)), (4, .inl (nI n))], [.inl (nI 3), .inl (nI 7), .inr (.inr (5, 1, 0))], h1)) (P := True) rfl trivial ?_
    refine jt_call jm_m213 12 (mi' := 198) (as := [.inr (.inr (5, 1, 0)), .inl (nI 7), .inl (nI 3)]) (rest := []) (nxt := 26) rfl rfl jm_m198 rfl rfl (tb_addFish Rh1 Wh1 (by omega) (by omega)) ?_
    rintro u h5 ⟨rfl, Rh5, Fh5⟩
    show jt_T 213 (26, [(0, .inr (.inr (4, 0, 0))), (1, .inl (nI 0)), (2, .inl (nI x)), (3, .inl (nI y)), (4, .inl (nI n))], [], h5) _
    have Rh5 : jg_rel h5 1 (sp_af g 7 3) := Rh5
    have Wh5 : jw (sp_af g 7 3) := jw_af Wh1 (by omega)
    have Zh5 := jg_mov0 Zh1 Fh5
    have Fh5 := jg_fr_tr Fh1 Fh5
    refine jt_go jm_m213 13 2 (f' := (28, [(0, .inr (.inr (4, 0, 0))), (1, .inl (nI 0)), (2, .inl (nI x)), (3, .inl (nI y)), (4, .inl (nI n))], [.inl (nI 1), .inl (nI y)], h5)) (P := True) rfl trivial ?_
    refine jt_nicne jm_m213 15 (a := y) (b := 1) (by omega) (by omega) (tgt := 41) (nxt := 31) rfl rfl rfl (fun c28 => ?_) (fun c28 => ?_)
    · refine jt_go jm_m213 21 3 (f' := (47, [(0, .inr (.inr (4, 0, 0))), (1, .inl (nI 0)), (2, .inl (nI x)), (3, .inl (nI y)), (4, .inl (nI n))], [.inl (nI n), .inr (.inr (5, 1, 0))], h5)) (P := True) rfl trivial ?_
      refine jt_call jm_m213 24 (mi' := 164) (as := [.inr (.inr (5, 1, 0)), .inl (nI n)]) (rest := []) (nxt := 50) rfl rfl jm_m164 rfl rfl (tb_goOn Rh5 Wh5 (by omega)) ?_
      rintro u h6 ⟨rfl, Rh6, Fh6⟩
      show jt_T 213 (50, [(0, .inr (.inr (4, 0, 0))), (1, .inl (nI 0)), (2, .inl (nI x)), (3, .inl (nI y)), (4, .inl (nI n))], [], h6) _
      have Rh6 : jg_rel h6 1 (sp_it (sp_af g 7 3) n) := Rh6
      have Wh6 : jw (sp_it (sp_af g 7 3) n) := (jw_it Wh5 _).1
      have Zh6 := jg_mov0 Zh5 Fh6
      have Fh6 := jg_fr_tr Fh5 Fh6
      refine jt_go jm_m213 25 4 (f' := (56, [(0, .inr (.inr (4, 0, 0))), (1, .inl (nI 0)), (2, .inl (nI x)), (3, .inl (nI y)), (4, .inl (nI n))], [.inl (nI 0), .inr (.inr (5, 1, 0)), .inr (.inr (4, 0, 0))], h6)) (P := True) rfl trivial ?_
      refine jt_callp (w := .inl (nI (sp_sum (fun c => if sp_sd ((sp_it (sp_af g 7 3) n) (38 + 5 * c)) = 0 then 1 else 0) ((sp_it (sp_af g 7 3) n) 0)))) jm_m213 29 (mi' := 212) (as := [.inr (.inr (4, 0, 0)), .inr (.inr (5, 1, 0)), .inl (nI 0)]) (rest := []) (nxt := 59) rfl rfl jm_m212 rfl rfl (tb_side Rh6 Wh6 (by omega)) ?_
      refine jt_iret jm_m213 30 rfl ?_
      have ex : x = 1 := by omega
      have ey : y = 0 := by omega
      have er : sp_r2 g x y = (sp_af g 7 3) := by rw [ex, ey]; unfold sp_r2; rw [sp_af_0 (jw_af W (by decide)) (by decide)]
      have e0 : sp_it (sp_af g 7 3) n 0 = g 0 := by rw [← er]; exact (jw_it (jw_r2 W) n).2.1.trans sp_r2_0
      refine ⟨jt_ln ?_, Fh6⟩
      rw [e0]
      unfold sp_s1
      rw [er]
      exact (sp_sum_0 _ _ (fun k => sp_sd_le _)).1
    · refine jt_go jm_m213 16 4 (f' := (38, [(0, .inr (.inr (4, 0, 0))), (1, .inl (nI 0)), (2, .inl (nI x)), (3, .inl (nI y)), (4, .inl (nI n))], [.inl (nI 3), .inl (nI 8), .inr (.inr (5, 1, 0))], h5)) (P := True) rfl trivial ?_
      refine jt_call jm_m213 20 (mi' := 198) (as := [.inr (.inr (5, 1, 0)), .inl (nI 8), .inl (nI 3)]) (rest := []) (nxt := 41) rfl rfl jm_m198 rfl rfl (tb_addFish Rh5 Wh5 (by omega) (by omega)) ?_
      rintro u h7 ⟨rfl, Rh7, Fh7⟩
      show jt_T 213 (41, [(0, .inr (.inr (4, 0, 0))), (1, .inl (nI 0)), (2, .inl (nI x)), (3, .inl (nI y)), (4, .inl (nI n))], [], h7) _
      have Rh7 : jg_rel h7 1 (sp_af (sp_af g 7 3) 8 3) := Rh7
      have Wh7 : jw (sp_af (sp_af g 7 3) 8 3) := jw_af Wh5 (by omega)
      have Zh7 := jg_mov0 Zh5 Fh7
      have Fh7 := jg_fr_tr Fh5 Fh7
      refine jt_go jm_m213 21 3 (f' := (47, [(0, .inr (.inr (4, 0, 0))), (1, .inl (nI 0)), (2, .inl (nI x)), (3, .inl (nI y)), (4, .inl (nI n))], [.inl (nI n), .inr (.inr (5, 1, 0))], h7)) (P := True) rfl trivial ?_
      refine jt_call jm_m213 24 (mi' := 164) (as := [.inr (.inr (5, 1, 0)), .inl (nI n)]) (rest := []) (nxt := 50) rfl rfl jm_m164 rfl rfl (tb_goOn Rh7 Wh7 (by omega)) ?_
      rintro u h8 ⟨rfl, Rh8, Fh8⟩
      show jt_T 213 (50, [(0, .inr (.inr (4, 0, 0))), (1, .inl (nI 0)), (2, .inl (nI x)), (3, .inl (nI y)), (4, .inl (nI n))], [], h8) _
      have Rh8 : jg_rel h8 1 (sp_it (sp_af (sp_af g 7 3) 8 3) n) := Rh8
      have Wh8 : jw (sp_it (sp_af (sp_af g 7 3) 8 3) n) := (jw_it Wh7 _).1
      have Zh8 := jg_mov0 Zh7 Fh8
      have Fh8 := jg_fr_tr Fh7 Fh8
      refine jt_go jm_m213 25 4 (f' := (56, [(0, .inr (.inr (4, 0, 0))), (1, .inl (nI 0)), (2, .inl (nI x)), (3, .inl (nI y)), (4, .inl (nI n))], [.inl (nI 0), .inr (.inr (5, 1, 0)), .inr (.inr (4, 0, 0))], h8)) (P := True) rfl trivial ?_
      refine jt_callp (w := .inl (nI (sp_sum (fun c => if sp_sd ((sp_it (sp_af (sp_af g 7 3) 8 3) n) (38 + 5 * c)) = 0 then 1 else 0) ((sp_it (sp_af (sp_af g 7 3) 8 3) n) 0)))) jm_m213 29 (mi' := 212) (as := [.inr (.inr (4, 0, 0)), .inr (.inr (5, 1, 0)), .inl (nI 0)]) (rest := []) (nxt := 59) rfl rfl jm_m212 rfl rfl (tb_side Rh8 Wh8 (by omega)) ?_
      refine jt_iret jm_m213 30 rfl ?_
      have ex : x = 1 := by omega
      have ey : y = 1 := by omega
      have er : sp_r2 g x y = (sp_af (sp_af g 7 3) 8 3) := by rw [ex, ey]; unfold sp_r2; first | done | rfl
      have e0 : sp_it (sp_af (sp_af g 7 3) 8 3) n 0 = g 0 := by rw [← er]; exact (jw_it (jw_r2 W) n).2.1.trans sp_r2_0
      refine ⟨jt_ln ?_, Fh8⟩
      rw [e0]
      unfold sp_s1
      rw [er]
      exact (sp_sum_0 _ _ (fun k => sp_sd_le _)).1
set_option maxHeartbeats 4000000 in
set_option maxRecDepth 20000 in
theorem cb_has1 {h : jm_M} {g : Nat → Nat} (R : jg_rel h 0 g) (W : jw g) {x y n : Nat} (hx : x ≤ 1) (hy : y ≤ 1) (hnn : n ≤ 24) : jt_T 213 (0, [(0, .inr (.inr (4, 0, 0))), (1, .inl (nI 1)), (2, .inl (nI x)), (3, .inl (nI y)), (4, .inl (nI n))], [], h) (fun u h' => u = some (.inl (nI (sp_s1 g x y n))) ∧ jg_fr 1 h h') := by
  have bn := jw_n W
  have bm := jw_m W
  have bt := jw_t W
  refine jt_go jm_m213 0 4 (f' := (8, [(0, .inr (.inr (4, 0, 0))), (1, .inl (nI 1)), (2, .inl (nI x)), (3, .inl (nI y)), (4, .inl (nI n))], [.inr (.inr (5, 1, 0)), .inr (.inr (5, 0, 0))], h)) (P := True) rfl trivial ?_
  refine jt_call jm_m213 4 (mi' := 146) (as := [.inr (.inr (5, 0, 0)), .inr (.inr (5, 1, 0))]) (rest := []) (nxt := 11) rfl rfl jm_m146 rfl rfl (tb_copies R (by decide)) ?_
  rintro u h1 ⟨rfl, Rh1, Fh1⟩
  show jt_T 213 (11, [(0, .inr (.inr (4, 0, 0))), (1, .inl (nI 1)), (2, .inl (nI x)), (3, .inl (nI y)), (4, .inl (nI n))], [], h1) _
  have Rh1 : jg_rel h1 1 g := Rh1
  have Wh1 : jw (g) := W
  have Zh1 := jg_mov0 R Fh1
  refine jt_go jm_m213 5 2 (f' := (13, [(0, .inr (.inr (4, 0, 0))), (1, .inl (nI 1)), (2, .inl (nI x)), (3, .inl (nI y)), (4, .inl (nI n))], [.inl (nI 1), .inl (nI x)], h1)) (P := True) rfl trivial ?_
  refine jt_nicne jm_m213 7 (a := x) (b := 1) (by omega) (by omega) (tgt := 26) (nxt := 16) rfl rfl rfl (fun c13 => ?_) (fun c13 => ?_)
  · refine jt_go jm_m213 13 2 (f' := (28, [(0, .inr (.inr (4, 0, 0))), (1, .inl (nI 1)), (2, .inl (nI x)), (3, .inl (nI y)), (4, .inl (nI n))], [.inl (nI 1), .inl (nI y)], h1)) (P := True) rfl trivial ?_
    refine jt_nicne jm_m213 15 (a := y) (b := 1) (by omega) (by omega) (tgt := 41) (nxt := 31) rfl rfl rfl (fun c28 => ?_) (fun c28 => ?_)
    · refine jt_go jm_m213 21 3 (f' := (47, [(0, .inr (.inr (4, 0, 0))), (1, .inl (nI 1)), (2, .inl (nI x)), (3, .inl (nI y)), (4, .inl (nI n))], [.inl (nI n), .inr (.inr (5, 1, 0))], h1)) (P := True) rfl trivial ?_
      refine jt_call jm_m213 24 (mi' := 164) (as := [.inr (.inr (5, 1, 0)), .inl (nI n)]) (rest := []) (nxt := 50) rfl rfl jm_m164 rfl rfl (tb_goOn Rh1 Wh1 (by omega)) ?_
      rintro u h2 ⟨rfl, Rh2, Fh2⟩
      show jt_T 213 (50, [(0, .inr (.inr (4, 0, 0))), (1, .inl (nI 1)), (2, .inl (nI x)), (3, .inl (nI y)), (4, .inl (nI n))], [], h2) _
      have Rh2 : jg_rel h2 1 (sp_it g n) := Rh2
      have Wh2 : jw (sp_it g n) := (jw_it Wh1 _).1
      have Zh2 := jg_mov0 Zh1 Fh2
      have Fh2 := jg_fr_tr Fh1 Fh2
      refine jt_go jm_m213 25 4 (f' := (56, [(0, .inr (.inr (4, 0, 0))), (1, .inl (nI 1)), (2, .inl (nI x)), (3, .inl (nI y)), (4, .inl (nI n))], [.inl (nI 1), .inr (.inr (5, 1, 0)), .inr (.inr (4, 0, 0))], h2)) (P := True) rfl trivial ?_
      refine jt_callp (w := .inl (nI (sp_sum (fun c => if sp_sd ((sp_it g n) (38 + 5 * c)) = 1 then 1 else 0) ((sp_it g n) 0)))) jm_m213 29 (mi' := 212) (as := [.inr (.inr (4, 0, 0)), .inr (.inr (5, 1, 0)), .inl (nI 1)]) (rest := []) (nxt := 59) rfl rfl jm_m212 rfl rfl (tb_side Rh2 Wh2 (by omega)) ?_
      refine jt_iret jm_m213 30 rfl ?_
      have ex : x = 0 := by omega
      have ey : y = 0 := by omega
      have er : sp_r2 g x y = g := by rw [ex, ey]; unfold sp_r2; rw [sp_af_0 W (by decide), sp_af_0 W (by decide)]
      have e0 : sp_it g n 0 = g 0 := by rw [← er]; exact (jw_it (jw_r2 W) n).2.1.trans sp_r2_0
      refine ⟨jt_ln ?_, Fh2⟩
      rw [e0]
      unfold sp_s1
      rw [er]
      exact sp_sum_1 _ _ (fun k => sp_sd_le _)
    · refine jt_go jm_m213 16 4 (f' := (38, [(0, .inr (.inr (4, 0, 0))), (1, .inl (nI 1)), (2, .inl (nI x)), (3, .inl (nI y)), (4, .inl (nI n))], [.inl (nI 3), .inl (nI 8), .inr (.inr (5, 1, 0))], h1)) (P := True) rfl trivial ?_
      refine jt_call jm_m213 20 (mi' := 198) (as := [.inr (.inr (5, 1, 0)), .inl (nI 8), .inl (nI 3)]) (rest := []) (nxt := 41) rfl rfl jm_m198 rfl rfl (tb_addFish Rh1 Wh1 (by omega) (by omega)) ?_
      rintro u h3 ⟨rfl, Rh3, Fh3⟩
      show jt_T 213 (41, [(0, .inr (.inr (4, 0, 0))), (1, .inl (nI 1)), (2, .inl (nI x)), (3, .inl (nI y)), (4, .inl (nI n))], [], h3) _
      have Rh3 : jg_rel h3 1 (sp_af g 8 3) := Rh3
      have Wh3 : jw (sp_af g 8 3) := jw_af Wh1 (by omega)
      have Zh3 := jg_mov0 Zh1 Fh3
      have Fh3 := jg_fr_tr Fh1 Fh3
      refine jt_go jm_m213 21 3 (f' := (47, [(0, .inr (.inr (4, 0, 0))), (1, .inl (nI 1)), (2, .inl (nI x)), (3, .inl (nI y)), (4, .inl (nI n))], [.inl (nI n), .inr (.inr (5, 1, 0))], h3)) (P := True) rfl trivial ?_
      refine jt_call jm_m213 24 (mi' := 164) (as := [.inr (.inr (5, 1, 0)), .inl (nI n)]) (rest := []) (nxt := 50) rfl rfl jm_m164 rfl rfl (tb_goOn Rh3 Wh3 (by omega)) ?_
      rintro u h4 ⟨rfl, Rh4, Fh4⟩
      show jt_T 213 (50, [(0, .inr (.inr (4, 0, 0))), (1, .inl (nI 1)), (2, .inl (nI x)), (3, .inl (nI y)), (4, .inl (nI n))], [], h4) _
      have Rh4 : jg_rel h4 1 (sp_it (sp_af g 8 3) n) := Rh4
      have Wh4 : jw (sp_it (sp_af g 8 3) n) := (jw_it Wh3 _).1
      have Zh4 := jg_mov0 Zh3 Fh4
      have Fh4 := jg_fr_tr Fh3 Fh4
      refine jt_go jm_m213 25 4 (f' := (56, [(0, .inr (.inr (4, 0, 0))), (1, .inl (nI 1)), (2, .inl (nI x)), (3, .inl (nI y)), (4, .inl (nI n))], [.inl (nI 1), .inr (.inr (5, 1, 0)), .inr (.inr (4, 0, 0))], h4)) (P := True) rfl trivial ?_
      refine jt_callp (w := .inl (nI (sp_sum (fun c => if sp_sd ((sp_it (sp_af g 8 3) n) (38 + 5 * c)) = 1 then 1 else 0) ((sp_it (sp_af g 8 3) n) 0)))) jm_m213 29 (mi' := 212) (as := [.inr (.inr (4, 0, 0)), .inr (.inr (5, 1, 0)), .inl (nI 1)]) (rest := []) (nxt := 59) rfl rfl jm_m212 rfl rfl (tb_side Rh4 Wh4 (by omega)) ?_
      refine jt_iret jm_m213 30 rfl ?_
      have ex : x = 0 := by omega
      have ey : y = 1 := by omega
      have er : sp_r2 g x y = (sp_af g 8 3) := by rw [ex, ey]; unfold sp_r2; rw [sp_af_0 W (by decide)]
      have e0 : sp_it (sp_af g 8 3) n 0 = g 0 := by rw [← er]; exact (jw_it (jw_r2 W) n).2.1.trans sp_r2_0
      refine ⟨jt_ln ?_, Fh4⟩
      rw [e0]
      unfold sp_s1
      rw [er]
      exact sp_sum_1 _ _ (fun k => sp_sd_le _)
  · refine jt_go jm_m213 8 4 (f' := (23, [(0, .inr (.inr (4, 0, 0))), (1, .inl (nI 1)), (2, .inl (nI x)), (3, .inl (nI y)), (4, .inl (nI n))], [.inl (nI 3), .inl (nI 7), .inr (.inr (5, 1, 0))], h1)) (P := True) rfl trivial ?_
    refine jt_call jm_m213 12 (mi' := 198) (as := [.inr (.inr (5, 1, 0)), .inl (nI 7), .inl (nI 3)]) (rest := []) (nxt := 26) rfl rfl jm_m198 rfl rfl (tb_addFish Rh1 Wh1 (by omega) (by omega)) ?_
    rintro u h5 ⟨rfl, Rh5, Fh5⟩
    show jt_T 213 (26, [(0, .inr (.inr (4, 0, 0))), (1, .inl (nI 1)), (2, .inl (nI x)), (3, .inl (nI y)), (4, .inl (nI n))], [], h5) _
    have Rh5 : jg_rel h5 1 (sp_af g 7 3) := Rh5
    have Wh5 : jw (sp_af g 7 3) := jw_af Wh1 (by omega)
    have Zh5 := jg_mov0 Zh1 Fh5
    have Fh5 := jg_fr_tr Fh1 Fh5
    refine jt_go jm_m213 13 2 (f' := (28, [(0, .inr (.inr (4, 0, 0))), (1, .inl (nI 1)), (2, .inl (nI x)), (3, .inl (nI y)), (4, .inl (nI n))], [.inl (nI 1), .inl (nI y)], h5)) (P := True) rfl trivial ?_
    refine jt_nicne jm_m213 15 (a := y) (b := 1) (by omega) (by omega) (tgt := 41) (nxt := 31) rfl rfl rfl (fun c28 => ?_) (fun c28 => ?_)
    · refine jt_go jm_m213 21 3 (f' := (47, [(0, .inr (.inr (4, 0, 0))), (1, .inl (nI 1)), (2, .inl (nI x)), (3, .inl (nI y)), (4, .inl (nI n))], [.inl (nI n), .inr (.inr (5, 1, 0))], h5)) (P := True) rfl trivial ?_
      refine jt_call jm_m213 24 (mi' := 164) (as := [.inr (.inr (5, 1, 0)), .inl (nI n)]) (rest := []) (nxt := 50) rfl rfl jm_m164 rfl rfl (tb_goOn Rh5 Wh5 (by omega)) ?_
      rintro u h6 ⟨rfl, Rh6, Fh6⟩
      show jt_T 213 (50, [(0, .inr (.inr (4, 0, 0))), (1, .inl (nI 1)), (2, .inl (nI x)), (3, .inl (nI y)), (4, .inl (nI n))], [], h6) _
      have Rh6 : jg_rel h6 1 (sp_it (sp_af g 7 3) n) := Rh6
      have Wh6 : jw (sp_it (sp_af g 7 3) n) := (jw_it Wh5 _).1
      have Zh6 := jg_mov0 Zh5 Fh6
      have Fh6 := jg_fr_tr Fh5 Fh6
      refine jt_go jm_m213 25 4 (f' := (56, [(0, .inr (.inr (4, 0, 0))), (1, .inl (nI 1)), (2, .inl (nI x)), (3, .inl (nI y)), (4, .inl (nI n))], [.inl (nI 1), .inr (.inr (5, 1, 0)), .inr (.inr (4, 0, 0))], h6)) (P := True) rfl trivial ?_
      refine jt_callp (w := .inl (nI (sp_sum (fun c => if sp_sd ((sp_it (sp_af g 7 3) n) (38 + 5 * c)) = 1 then 1 else 0) ((sp_it (sp_af g 7 3) n) 0)))) jm_m213 29 (mi' := 212) (as := [.inr (.inr (4, 0, 0)), .inr (.inr (5, 1, 0)), .inl (nI 1)]) (rest := []) (nxt := 59) rfl rfl jm_m212 rfl rfl (tb_side Rh6 Wh6 (by omega)) ?_
      refine jt_iret jm_m213 30 rfl ?_
      have ex : x = 1 := by omega
      have ey : y = 0 := by omega
      have er : sp_r2 g x y = (sp_af g 7 3) := by rw [ex, ey]; unfold sp_r2; rw [sp_af_0 (jw_af W (by decide)) (by decide)]
      have e0 : sp_it (sp_af g 7 3) n 0 = g 0 := by rw [← er]; exact (jw_it (jw_r2 W) n).2.1.trans sp_r2_0
      refine ⟨jt_ln ?_, Fh6⟩
      rw [e0]
      unfold sp_s1
      rw [er]
      exact sp_sum_1 _ _ (fun k => sp_sd_le _)
    · refine jt_go jm_m213 16 4 (f' := (38, [(0, .inr (.inr (4, 0, 0))), (1, .inl (nI 1)), (2, .inl (nI x)), (3, .inl (nI y)), (4, .inl (nI n))], [.inl (nI 3), .inl (nI 8), .inr (.inr (5, 1, 0))], h5)) (P := True) rfl trivial ?_
      refine jt_call jm_m213 20 (mi' := 198) (as := [.inr (.inr (5, 1, 0)), .inl (nI 8), .inl (nI 3)]) (rest := []) (nxt := 41) rfl rfl jm_m198 rfl rfl (tb_addFish Rh5 Wh5 (by omega) (by omega)) ?_
      rintro u h7 ⟨rfl, Rh7, Fh7⟩
      show jt_T 213 (41, [(0, .inr (.inr (4, 0, 0))), (1, .inl (nI 1)), (2, .inl (nI x)), (3, .inl (nI y)), (4, .inl (nI n))], [], h7) _
      have Rh7 : jg_rel h7 1 (sp_af (sp_af g 7 3) 8 3) := Rh7
      have Wh7 : jw (sp_af (sp_af g 7 3) 8 3) := jw_af Wh5 (by omega)
      have Zh7 := jg_mov0 Zh5 Fh7
      have Fh7 := jg_fr_tr Fh5 Fh7
      refine jt_go jm_m213 21 3 (f' := (47, [(0, .inr (.inr (4, 0, 0))), (1, .inl (nI 1)), (2, .inl (nI x)), (3, .inl (nI y)), (4, .inl (nI n))], [.inl (nI n), .inr (.inr (5, 1, 0))], h7)) (P := True) rfl trivial ?_
      refine jt_call jm_m213 24 (mi' := 164) (as := [.inr (.inr (5, 1, 0)), .inl (nI n)]) (rest := []) (nxt := 50) rfl rfl jm_m164 rfl rfl (tb_goOn Rh7 Wh7 (by omega)) ?_
      rintro u h8 ⟨rfl, Rh8, Fh8⟩
      show jt_T 213 (50, [(0, .inr (.inr (4, 0, 0))), (1, .inl (nI 1)), (2, .inl (nI x)), (3, .inl (nI y)), (4, .inl (nI n))], [], h8) _
      have Rh8 : jg_rel h8 1 (sp_it (sp_af (sp_af g 7 3) 8 3) n) := Rh8
      have Wh8 : jw (sp_it (sp_af (sp_af g 7 3) 8 3) n) := (jw_it Wh7 _).1
      have Zh8 := jg_mov0 Zh7 Fh8
      have Fh8 := jg_fr_tr Fh7 Fh8
      refine jt_go jm_m213 25 4 (f' := (56, [(0, .inr (.inr (4, 0, 0))), (1, .inl (nI 1)), (2, .inl (nI x)), (3, .inl (nI y)), (4, .inl (nI n))], [.inl (nI 1), .inr (.inr (5, 1, 0)), .inr (.inr (4, 0, 0))], h8)) (P := True) rfl trivial ?_
      refine jt_callp (w := .inl (nI (sp_sum (fun c => if sp_sd ((sp_it (sp_af (sp_af g 7 3) 8 3) n) (38 + 5 * c)) = 1 then 1 else 0) ((sp_it (sp_af (sp_af g 7 3) 8 3) n) 0)))) jm_m213 29 (mi' := 212) (as := [.inr (.inr (4, 0, 0)), .inr (.inr (5, 1, 0)), .inl (nI 1)]) (rest := []) (nxt := 59) rfl rfl jm_m212 rfl rfl (tb_side Rh8 Wh8 (by omega)) ?_
      refine jt_iret jm_m213 30 rfl ?_
      have ex : x = 1 := by omega
      have ey : y = 1 := by omega
      have er : sp_r2 g x y = (sp_af (sp_af g 7 3) 8 3) := by rw [ex, ey]; unfold sp_r2; first | done | rfl
      have e0 : sp_it (sp_af (sp_af g 7 3) 8 3) n 0 = g 0 := by rw [← er]; exact (jw_it (jw_r2 W) n).2.1.trans sp_r2_0
      refine ⟨jt_ln ?_, Fh8⟩
      rw [e0]
      unfold sp_s1
      rw [er]
      exact sp_sum_1 _ _ (fun k => sp_sd_le _)
set_option maxHeartbeats 4000000 in
set_option maxRecDepth 20000 in
theorem ca_two3 {h : jm_M} {g : Nat → Nat} (W : jw g) {n : Nat} (hnn : n ≤ 24) (R : jf_rel h 0 g) : jt_T 110 (21, [(0, .inr (.inr (0, 0, 0))), (1, .inl (nI n)), (2, .inl (nI 1)), (3, .inl (nI 1))], [], h) (fun u h' => u = some (.inl (if (sp_s1 g 1 1 n ≤ sp_s1 g 0 1 n ∧ sp_s1 g 1 0 n ≤ sp_s1 g 1 1 n) then nI 11 else (-4))) ∧ jf_fr 1 h h') := by
  have bn := jw_n W
  have bm := jw_m W
  have bt := jw_t W
  refine jt_go jm_m110 14 2 (f' := (23, [(0, .inr (.inr (0, 0, 0))), (1, .inl (nI n)), (2, .inl (nI 1)), (3, .inl (nI 1))], [.inl (nI 1), .inl (nI 1)], h)) (P := True) rfl trivial ?_
  refine jt_nicgt jm_m110 16 (a := 1) (b := 1) (by omega) (by omega) (tgt := 100) (nxt := 26) rfl rfl rfl (fun c23 => ?_) (fun c23 => ?_)
  · exact absurd c23 (by decide)
  · refine jt_go jm_m110 17 4 (f' := (30, [(0, .inr (.inr (0, 0, 0))), (1, .inl (nI n)), (2, .inl (nI 1)), (3, .inl (nI 1))], [.inl (nI n), .inl (nI 1), .inl (nI 1), .inr (.inr (0, 0, 0))], h)) (P := True) rfl trivial ?_
    refine jt_call jm_m110 21 (mi' := 111) (as := [.inr (.inr (0, 0, 0)), .inl (nI 1), .inl (nI 1), .inl (nI n)]) (rest := []) (nxt := 33) rfl rfl jm_m111 rfl rfl (ca_s1 R W (by omega) (by omega) (by omega)) ?_
    rintro u h1 ⟨rfl, Fh1⟩
    show jt_T 110 (33, [(0, .inr (.inr (0, 0, 0))), (1, .inl (nI n)), (2, .inl (nI 1)), (3, .inl (nI 1))], [.inl (nI (sp_s1 g 1 1 n))], h1) _
    have Zh1 := jf_mov0 R Fh1
    have bq1 := sp_s1_le (g := g) 1 1 n
    refine jt_go jm_m110 22 5 (f' := (39, [(4, .inl (nI (sp_s1 g 1 1 n))), (0, .inr (.inr (0, 0, 0))), (1, .inl (nI n)), (2, .inl (nI 1)), (3, .inl (nI 1))], [.inl ((nI 1) - (nI 1)), .inr (.inr (0, 0, 0))], h1)) (P := True) rfl trivial ?_
    refine jt_ti (show ((nI 1) - (nI 1)) = nI 0 from rfl) ?_
    refine jt_go jm_m110 27 2 (f' := (41, [(4, .inl (nI (sp_s1 g 1 1 n))), (0, .inr (.inr (0, 0, 0))), (1, .inl (nI n)), (2, .inl (nI 1)), (3, .inl (nI 1))], [.inl (nI n), .inl (nI 1), .inl (nI 0), .inr (.inr (0, 0, 0))], h1)) (P := True) rfl trivial ?_
    refine jt_call jm_m110 29 (mi' := 111) (as := [.inr (.inr (0, 0, 0)), .inl (nI 0), .inl (nI 1), .inl (nI n)]) (rest := []) (nxt := 44) rfl rfl jm_m111 rfl rfl (ca_s1 Zh1 W (by omega) (by omega) (by omega)) ?_
    rintro u h2 ⟨rfl, Fh2⟩
    show jt_T 110 (44, [(4, .inl (nI (sp_s1 g 1 1 n))), (0, .inr (.inr (0, 0, 0))), (1, .inl (nI n)), (2, .inl (nI 1)), (3, .inl (nI 1))], [.inl (nI (sp_s1 g 0 1 n))], h2) _
    have Zh2 := jf_mov0 Zh1 Fh2
    have Fh2 := jf_fr_tr Fh1 Fh2
    have bq2 := sp_s1_le (g := g) 0 1 n
    refine jt_go jm_m110 30 1 (f' := (46, [(4, .inl (nI (sp_s1 g 1 1 n))), (0, .inr (.inr (0, 0, 0))), (1, .inl (nI n)), (2, .inl (nI 1)), (3, .inl (nI 1))], [.inl (nI (sp_s1 g 1 1 n)), .inl (nI (sp_s1 g 0 1 n))], h2)) (P := True) rfl trivial ?_
    refine jt_niclt jm_m110 31 (a := sp_s1 g 0 1 n) (b := sp_s1 g 1 1 n) (by omega) (by omega) (tgt := 53) (nxt := 49) rfl rfl rfl (fun c46 => ?_) (fun c46 => ?_)
    · refine jt_go jm_m110 34 7 (f' := (61, [(5, .inl (nI 0)), (4, .inl (nI (sp_s1 g 1 1 n))), (0, .inr (.inr (0, 0, 0))), (1, .inl (nI n)), (2, .inl (nI 1)), (3, .inl (nI 1))], [.inl ((nI 1) - (nI 1)), .inl (nI 1), .inr (.inr (0, 0, 0))], h2)) (P := True) rfl trivial ?_
      refine jt_ti (show ((nI 1) - (nI 1)) = nI 0 from rfl) ?_
      refine jt_go jm_m110 41 1 (f' := (62, [(5, .inl (nI 0)), (4, .inl (nI (sp_s1 g 1 1 n))), (0, .inr (.inr (0, 0, 0))), (1, .inl (nI n)), (2, .inl (nI 1)), (3, .inl (nI 1))], [.inl (nI n), .inl (nI 0), .inl (nI 1), .inr (.inr (0, 0, 0))], h2)) (P := True) rfl trivial ?_
      refine jt_call jm_m110 42 (mi' := 111) (as := [.inr (.inr (0, 0, 0)), .inl (nI 1), .inl (nI 0), .inl (nI n)]) (rest := []) (nxt := 65) rfl rfl jm_m111 rfl rfl (ca_s1 Zh2 W (by omega) (by omega) (by omega)) ?_
      rintro u h3 ⟨rfl, Fh3⟩
      show jt_T 110 (65, [(5, .inl (nI 0)), (4, .inl (nI (sp_s1 g 1 1 n))), (0, .inr (.inr (0, 0, 0))), (1, .inl (nI n)), (2, .inl (nI 1)), (3, .inl (nI 1))], [.inl (nI (sp_s1 g 1 0 n))], h3) _
      have Zh3 := jf_mov0 Zh2 Fh3
      have Fh3 := jf_fr_tr Fh2 Fh3
      have bq3 := sp_s1_le (g := g) 1 0 n
      refine jt_go jm_m110 43 1 (f' := (67, [(5, .inl (nI 0)), (4, .inl (nI (sp_s1 g 1 1 n))), (0, .inr (.inr (0, 0, 0))), (1, .inl (nI n)), (2, .inl (nI 1)), (3, .inl (nI 1))], [.inl (nI (sp_s1 g 1 1 n)), .inl (nI (sp_s1 g 1 0 n))], h3)) (P := True) rfl trivial ?_
      refine jt_nicgt jm_m110 44 (a := sp_s1 g 1 0 n) (b := sp_s1 g 1 1 n) (by omega) (by omega) (tgt := 74) (nxt := 70) rfl rfl rfl (fun c67 => ?_) (fun c67 => ?_)
      · refine jt_go jm_m110 47 3 (f' := (79, [(6, .inl (nI 0)), (5, .inl (nI 0)), (4, .inl (nI (sp_s1 g 1 1 n))), (0, .inr (.inr (0, 0, 0))), (1, .inl (nI n)), (2, .inl (nI 1)), (3, .inl (nI 1))], [.inl (nI 0)], h3)) (P := True) rfl trivial ?_
        refine jt_nifeq jm_m110 50 (by omega) (tgt := 94) (nxt := 82) rfl rfl rfl (fun c79 => ?_) (fun c79 => ?_)
        · refine jt_inc jm_m110 59 (c := 1) (L' := [(3, .inl (nI 2)), (6, .inl (nI 0)), (5, .inl (nI 0)), (4, .inl (nI (sp_s1 g 1 1 n))), (0, .inr (.inr (0, 0, 0))), (1, .inl (nI n)), (2, .inl (nI 1))]) rfl rfl rfl rfl ?_
          refine jt_go jm_m110 60 1 (f' := (21, [(3, .inl (nI 2)), (6, .inl (nI 0)), (5, .inl (nI 0)), (4, .inl (nI (sp_s1 g 1 1 n))), (0, .inr (.inr (0, 0, 0))), (1, .inl (nI n)), (2, .inl (nI 1))], [], h3)) (P := True) rfl trivial ?_
          refine jt_go jm_m110 14 2 (f' := (23, [(3, .inl (nI 2)), (6, .inl (nI 0)), (5, .inl (nI 0)), (4, .inl (nI (sp_s1 g 1 1 n))), (0, .inr (.inr (0, 0, 0))), (1, .inl (nI n)), (2, .inl (nI 1))], [.inl (nI 1), .inl (nI 2)], h3)) (P := True) rfl trivial ?_
          refine jt_nicgt jm_m110 16 (a := 2) (b := 1) (by omega) (by omega) (tgt := 100) (nxt := 26) rfl rfl rfl (fun c23 => ?_) (fun c23 => ?_)
          · refine jt_inc jm_m110 61 (c := 1) (L' := [(2, .inl (nI 2)), (3, .inl (nI 2)), (6, .inl (nI 0)), (5, .inl (nI 0)), (4, .inl (nI (sp_s1 g 1 1 n))), (0, .inr (.inr (0, 0, 0))), (1, .inl (nI n))]) rfl rfl rfl rfl ?_
            refine jt_go jm_m110 62 1 (f' := (14, [(2, .inl (nI 2)), (3, .inl (nI 2)), (6, .inl (nI 0)), (5, .inl (nI 0)), (4, .inl (nI (sp_s1 g 1 1 n))), (0, .inr (.inr (0, 0, 0))), (1, .inl (nI n))], [], h3)) (P := True) rfl trivial ?_
            refine jt_go jm_m110 9 2 (f' := (16, [(2, .inl (nI 2)), (3, .inl (nI 2)), (6, .inl (nI 0)), (5, .inl (nI 0)), (4, .inl (nI (sp_s1 g 1 1 n))), (0, .inr (.inr (0, 0, 0))), (1, .inl (nI n))], [.inl (nI 1), .inl (nI 2)], h3)) (P := True) rfl trivial ?_
            refine jt_nicgt jm_m110 11 (a := 2) (b := 1) (by omega) (by omega) (tgt := 106) (nxt := 19) rfl rfl rfl (fun c16 => ?_) (fun c16 => ?_)
            · refine jt_go jm_m110 63 1 (f' := (108, [(2, .inl (nI 2)), (3, .inl (nI 2)), (6, .inl (nI 0)), (5, .inl (nI 0)), (4, .inl (nI (sp_s1 g 1 1 n))), (0, .inr (.inr (0, 0, 0))), (1, .inl (nI n))], [.inl ((-4))], h3)) (P := True) rfl trivial ?_
              refine jt_iret jm_m110 64 rfl ?_
              exact ⟨jt_li (if_neg (by omega)).symm, Fh3⟩
            · exact absurd c16 (by decide)
          · exact absurd c23 (by decide)
        · exact absurd c79 (by decide)
      · refine jt_go jm_m110 45 2 (f' := (75, [(5, .inl (nI 0)), (4, .inl (nI (sp_s1 g 1 1 n))), (0, .inr (.inr (0, 0, 0))), (1, .inl (nI n)), (2, .inl (nI 1)), (3, .inl (nI 1))], [.inl (nI 1)], h3)) (P := True) rfl trivial ?_
        refine jt_go jm_m110 48 2 (f' := (79, [(6, .inl (nI 1)), (5, .inl (nI 0)), (4, .inl (nI (sp_s1 g 1 1 n))), (0, .inr (.inr (0, 0, 0))), (1, .inl (nI n)), (2, .inl (nI 1)), (3, .inl (nI 1))], [.inl (nI 0)], h3)) (P := True) rfl trivial ?_
        refine jt_nifeq jm_m110 50 (by omega) (tgt := 94) (nxt := 82) rfl rfl rfl (fun c79 => ?_) (fun c79 => ?_)
        · refine jt_inc jm_m110 59 (c := 1) (L' := [(3, .inl (nI 2)), (6, .inl (nI 1)), (5, .inl (nI 0)), (4, .inl (nI (sp_s1 g 1 1 n))), (0, .inr (.inr (0, 0, 0))), (1, .inl (nI n)), (2, .inl (nI 1))]) rfl rfl rfl rfl ?_
          refine jt_go jm_m110 60 1 (f' := (21, [(3, .inl (nI 2)), (6, .inl (nI 1)), (5, .inl (nI 0)), (4, .inl (nI (sp_s1 g 1 1 n))), (0, .inr (.inr (0, 0, 0))), (1, .inl (nI n)), (2, .inl (nI 1))], [], h3)) (P := True) rfl trivial ?_
          refine jt_go jm_m110 14 2 (f' := (23, [(3, .inl (nI 2)), (6, .inl (nI 1)), (5, .inl (nI 0)), (4, .inl (nI (sp_s1 g 1 1 n))), (0, .inr (.inr (0, 0, 0))), (1, .inl (nI n)), (2, .inl (nI 1))], [.inl (nI 1), .inl (nI 2)], h3)) (P := True) rfl trivial ?_
          refine jt_nicgt jm_m110 16 (a := 2) (b := 1) (by omega) (by omega) (tgt := 100) (nxt := 26) rfl rfl rfl (fun c23 => ?_) (fun c23 => ?_)
          · refine jt_inc jm_m110 61 (c := 1) (L' := [(2, .inl (nI 2)), (3, .inl (nI 2)), (6, .inl (nI 1)), (5, .inl (nI 0)), (4, .inl (nI (sp_s1 g 1 1 n))), (0, .inr (.inr (0, 0, 0))), (1, .inl (nI n))]) rfl rfl rfl rfl ?_
            refine jt_go jm_m110 62 1 (f' := (14, [(2, .inl (nI 2)), (3, .inl (nI 2)), (6, .inl (nI 1)), (5, .inl (nI 0)), (4, .inl (nI (sp_s1 g 1 1 n))), (0, .inr (.inr (0, 0, 0))), (1, .inl (nI n))], [], h3)) (P := True) rfl trivial ?_
            refine jt_go jm_m110 9 2 (f' := (16, [(2, .inl (nI 2)), (3, .inl (nI 2)), (6, .inl (nI 1)), (5, .inl (nI 0)), (4, .inl (nI (sp_s1 g 1 1 n))), (0, .inr (.inr (0, 0, 0))), (1, .inl (nI n))], [.inl (nI 1), .inl (nI 2)], h3)) (P := True) rfl trivial ?_
            refine jt_nicgt jm_m110 11 (a := 2) (b := 1) (by omega) (by omega) (tgt := 106) (nxt := 19) rfl rfl rfl (fun c16 => ?_) (fun c16 => ?_)
            · refine jt_go jm_m110 63 1 (f' := (108, [(2, .inl (nI 2)), (3, .inl (nI 2)), (6, .inl (nI 1)), (5, .inl (nI 0)), (4, .inl (nI (sp_s1 g 1 1 n))), (0, .inr (.inr (0, 0, 0))), (1, .inl (nI n))], [.inl ((-4))], h3)) (P := True) rfl trivial ?_
              refine jt_iret jm_m110 64 rfl ?_
              exact ⟨jt_li (if_neg (by omega)).symm, Fh3⟩
            · exact absurd c16 (by decide)
          · exact absurd c23 (by decide)
        · exact absurd c79 (by decide)
    · refine jt_go jm_m110 32 2 (f' := (54, [(4, .inl (nI (sp_s1 g 1 1 n))), (0, .inr (.inr (0, 0, 0))), (1, .inl (nI n)), (2, .inl (nI 1)), (3, .inl (nI 1))], [.inl (nI 1)], h2)) (P := True) rfl trivial ?_
      refine jt_go jm_m110 35 6 (f' := (61, [(5, .inl (nI 1)), (4, .inl (nI (sp_s1 g 1 1 n))), (0, .inr (.inr (0, 0, 0))), (1, .inl (nI n)), (2, .inl (nI 1)), (3, .inl (nI 1))], [.inl ((nI 1) - (nI 1)), .inl (nI 1), .inr (.inr (0, 0, 0))], h2)) (P := True) rfl trivial ?_
      refine jt_ti (show ((nI 1) - (nI 1)) = nI 0 from rfl) ?_
      refine jt_go jm_m110 41 1 (f' := (62, [(5, .inl (nI 1)), (4, .inl (nI (sp_s1 g 1 1 n))), (0, .inr (.inr (0, 0, 0))), (1, .inl (nI n)), (2, .inl (nI 1)), (3, .inl (nI 1))], [.inl (nI n), .inl (nI 0), .inl (nI 1), .inr (.inr (0, 0, 0))], h2)) (P := True) rfl trivial ?_
      refine jt_call jm_m110 42 (mi' := 111) (as := [.inr (.inr (0, 0, 0)), .inl (nI 1), .inl (nI 0), .inl (nI n)]) (rest := []) (nxt := 65) rfl rfl jm_m111 rfl rfl (ca_s1 Zh2 W (by omega) (by omega) (by omega)) ?_
      rintro u h4 ⟨rfl, Fh4⟩
      show jt_T 110 (65, [(5, .inl (nI 1)), (4, .inl (nI (sp_s1 g 1 1 n))), (0, .inr (.inr (0, 0, 0))), (1, .inl (nI n)), (2, .inl (nI 1)), (3, .inl (nI 1))], [.inl (nI (sp_s1 g 1 0 n))], h4) _
      have Zh4 := jf_mov0 Zh2 Fh4
      have Fh4 := jf_fr_tr Fh2 Fh4
      have bq4 := sp_s1_le (g := g) 1 0 n
      refine jt_go jm_m110 43 1 (f' := (67, [(5, .inl (nI 1)), (4, .inl (nI (sp_s1 g 1 1 n))), (0, .inr (.inr (0, 0, 0))), (1, .inl (nI n)), (2, .inl (nI 1)), (3, .inl (nI 1))], [.inl (nI (sp_s1 g 1 1 n)), .inl (nI (sp_s1 g 1 0 n))], h4)) (P := True) rfl trivial ?_
      refine jt_nicgt jm_m110 44 (a := sp_s1 g 1 0 n) (b := sp_s1 g 1 1 n) (by omega) (by omega) (tgt := 74) (nxt := 70) rfl rfl rfl (fun c67 => ?_) (fun c67 => ?_)
      · refine jt_go jm_m110 47 3 (f' := (79, [(6, .inl (nI 0)), (5, .inl (nI 1)), (4, .inl (nI (sp_s1 g 1 1 n))), (0, .inr (.inr (0, 0, 0))), (1, .inl (nI n)), (2, .inl (nI 1)), (3, .inl (nI 1))], [.inl (nI 1)], h4)) (P := True) rfl trivial ?_
        refine jt_nifeq jm_m110 50 (by omega) (tgt := 94) (nxt := 82) rfl rfl rfl (fun c79 => ?_) (fun c79 => ?_)
        · exact absurd c79 (by decide)
        · refine jt_go jm_m110 51 1 (f' := (84, [(6, .inl (nI 0)), (5, .inl (nI 1)), (4, .inl (nI (sp_s1 g 1 1 n))), (0, .inr (.inr (0, 0, 0))), (1, .inl (nI n)), (2, .inl (nI 1)), (3, .inl (nI 1))], [.inl (nI 0)], h4)) (P := True) rfl trivial ?_
          refine jt_nifeq jm_m110 52 (by omega) (tgt := 94) (nxt := 87) rfl rfl rfl (fun c84 => ?_) (fun c84 => ?_)
          · refine jt_inc jm_m110 59 (c := 1) (L' := [(3, .inl (nI 2)), (6, .inl (nI 0)), (5, .inl (nI 1)), (4, .inl (nI (sp_s1 g 1 1 n))), (0, .inr (.inr (0, 0, 0))), (1, .inl (nI n)), (2, .inl (nI 1))]) rfl rfl rfl rfl ?_
            refine jt_go jm_m110 60 1 (f' := (21, [(3, .inl (nI 2)), (6, .inl (nI 0)), (5, .inl (nI 1)), (4, .inl (nI (sp_s1 g 1 1 n))), (0, .inr (.inr (0, 0, 0))), (1, .inl (nI n)), (2, .inl (nI 1))], [], h4)) (P := True) rfl trivial ?_
            refine jt_go jm_m110 14 2 (f' := (23, [(3, .inl (nI 2)), (6, .inl (nI 0)), (5, .inl (nI 1)), (4, .inl (nI (sp_s1 g 1 1 n))), (0, .inr (.inr (0, 0, 0))), (1, .inl (nI n)), (2, .inl (nI 1))], [.inl (nI 1), .inl (nI 2)], h4)) (P := True) rfl trivial ?_
            refine jt_nicgt jm_m110 16 (a := 2) (b := 1) (by omega) (by omega) (tgt := 100) (nxt := 26) rfl rfl rfl (fun c23 => ?_) (fun c23 => ?_)
            · refine jt_inc jm_m110 61 (c := 1) (L' := [(2, .inl (nI 2)), (3, .inl (nI 2)), (6, .inl (nI 0)), (5, .inl (nI 1)), (4, .inl (nI (sp_s1 g 1 1 n))), (0, .inr (.inr (0, 0, 0))), (1, .inl (nI n))]) rfl rfl rfl rfl ?_
              refine jt_go jm_m110 62 1 (f' := (14, [(2, .inl (nI 2)), (3, .inl (nI 2)), (6, .inl (nI 0)), (5, .inl (nI 1)), (4, .inl (nI (sp_s1 g 1 1 n))), (0, .inr (.inr (0, 0, 0))), (1, .inl (nI n))], [], h4)) (P := True) rfl trivial ?_
              refine jt_go jm_m110 9 2 (f' := (16, [(2, .inl (nI 2)), (3, .inl (nI 2)), (6, .inl (nI 0)), (5, .inl (nI 1)), (4, .inl (nI (sp_s1 g 1 1 n))), (0, .inr (.inr (0, 0, 0))), (1, .inl (nI n))], [.inl (nI 1), .inl (nI 2)], h4)) (P := True) rfl trivial ?_
              refine jt_nicgt jm_m110 11 (a := 2) (b := 1) (by omega) (by omega) (tgt := 106) (nxt := 19) rfl rfl rfl (fun c16 => ?_) (fun c16 => ?_)
              · refine jt_go jm_m110 63 1 (f' := (108, [(2, .inl (nI 2)), (3, .inl (nI 2)), (6, .inl (nI 0)), (5, .inl (nI 1)), (4, .inl (nI (sp_s1 g 1 1 n))), (0, .inr (.inr (0, 0, 0))), (1, .inl (nI n))], [.inl ((-4))], h4)) (P := True) rfl trivial ?_
                refine jt_iret jm_m110 64 rfl ?_
                exact ⟨jt_li (if_neg (by omega)).symm, Fh4⟩
              · exact absurd c16 (by decide)
            · exact absurd c23 (by decide)
          · exact absurd c84 (by decide)
      · refine jt_go jm_m110 45 2 (f' := (75, [(5, .inl (nI 1)), (4, .inl (nI (sp_s1 g 1 1 n))), (0, .inr (.inr (0, 0, 0))), (1, .inl (nI n)), (2, .inl (nI 1)), (3, .inl (nI 1))], [.inl (nI 1)], h4)) (P := True) rfl trivial ?_
        refine jt_go jm_m110 48 2 (f' := (79, [(6, .inl (nI 1)), (5, .inl (nI 1)), (4, .inl (nI (sp_s1 g 1 1 n))), (0, .inr (.inr (0, 0, 0))), (1, .inl (nI n)), (2, .inl (nI 1)), (3, .inl (nI 1))], [.inl (nI 1)], h4)) (P := True) rfl trivial ?_
        refine jt_nifeq jm_m110 50 (by omega) (tgt := 94) (nxt := 82) rfl rfl rfl (fun c79 => ?_) (fun c79 => ?_)
        · exact absurd c79 (by decide)
        · refine jt_go jm_m110 51 1 (f' := (84, [(6, .inl (nI 1)), (5, .inl (nI 1)), (4, .inl (nI (sp_s1 g 1 1 n))), (0, .inr (.inr (0, 0, 0))), (1, .inl (nI n)), (2, .inl (nI 1)), (3, .inl (nI 1))], [.inl (nI 1)], h4)) (P := True) rfl trivial ?_
          refine jt_nifeq jm_m110 52 (by omega) (tgt := 94) (nxt := 87) rfl rfl rfl (fun c84 => ?_) (fun c84 => ?_)
          · exact absurd c84 (by decide)
          · refine jt_go jm_m110 53 3 (f' := (91, [(6, .inl (nI 1)), (5, .inl (nI 1)), (4, .inl (nI (sp_s1 g 1 1 n))), (0, .inr (.inr (0, 0, 0))), (1, .inl (nI n)), (2, .inl (nI 1)), (3, .inl (nI 1))], [.inl ((nI 10) * (nI 1))], h4)) (P := True) rfl trivial ?_
            refine jt_ti (show ((nI 10) * (nI 1)) = nI 10 from rfl) ?_
            refine jt_go jm_m110 56 2 (f' := (93, [(6, .inl (nI 1)), (5, .inl (nI 1)), (4, .inl (nI (sp_s1 g 1 1 n))), (0, .inr (.inr (0, 0, 0))), (1, .inl (nI n)), (2, .inl (nI 1)), (3, .inl (nI 1))], [.inl ((nI 10) + (nI 1))], h4)) (P := True) rfl trivial ?_
            refine jt_ti (show ((nI 10) + (nI 1)) = nI 11 from rfl) ?_
            refine jt_iret jm_m110 58 rfl ?_
            exact ⟨jt_li (if_pos (by omega)).symm, Fh4⟩
set_option maxHeartbeats 4000000 in
set_option maxRecDepth 20000 in
theorem cb_two3 {h : jm_M} {g : Nat → Nat} (W : jw g) {n : Nat} (hnn : n ≤ 24) (R : jg_rel h 0 g) : jt_T 214 (14, [(0, .inr (.inr (4, 0, 0))), (1, .inl (nI n)), (2, .inl (nI 3))], [], h) (fun u h' => u = some (.inl (if (sp_s1 g 1 1 n ≤ sp_s1 g 0 1 n ∧ sp_s1 g 1 0 n ≤ sp_s1 g 1 1 n) then nI 11 else (-4))) ∧ jg_fr 1 h h') := by
  have bn := jw_n W
  have bm := jw_m W
  have bt := jw_t W
  refine jt_go jm_m214 9 2 (f' := (16, [(0, .inr (.inr (4, 0, 0))), (1, .inl (nI n)), (2, .inl (nI 3))], [.inl (nI 4), .inl (nI 3)], h)) (P := True) rfl trivial ?_
  refine jt_nicge jm_m214 11 (a := 3) (b := 4) (by omega) (by omega) (tgt := 88) (nxt := 19) rfl rfl rfl (fun c16 => ?_) (fun c16 => ?_)
  · exact absurd c16 (by decide)
  · refine jt_go jm_m214 12 3 (f' := (22, [(0, .inr (.inr (4, 0, 0))), (1, .inl (nI n)), (2, .inl (nI 3))], [.inl ((nI 3) / (nI 2))], h)) (P := ¬ (nI 2) = 0 ∧ True) rfl ⟨(by decide), trivial⟩ ?_
    refine jt_ti (show ((nI 3) / (nI 2)) = nI 1 from (by decide)) ?_
    refine jt_go jm_m214 15 4 (f' := (26, [(3, .inl (nI 1)), (0, .inr (.inr (4, 0, 0))), (1, .inl (nI n)), (2, .inl (nI 3))], [.inl ((nI 3) - (nI 3) / (nI 2) * (nI 2))], h)) (P := ¬ (nI 2) = 0 ∧ True) rfl ⟨(by decide), trivial⟩ ?_
    refine jt_ti (show ((nI 3) - (nI 3) / (nI 2) * (nI 2)) = nI 1 from (by decide)) ?_
    refine jt_go jm_m214 19 6 (f' := (33, [(4, .inl (nI 1)), (3, .inl (nI 1)), (0, .inr (.inr (4, 0, 0))), (1, .inl (nI n)), (2, .inl (nI 3))], [.inl ((nI 1) - (nI 1)), .inl (nI 0), .inr (.inr (4, 0, 0))], h)) (P := True) rfl trivial ?_
    refine jt_ti (show ((nI 1) - (nI 1)) = nI 0 from rfl) ?_
    refine jt_go jm_m214 25 2 (f' := (36, [(4, .inl (nI 1)), (3, .inl (nI 1)), (0, .inr (.inr (4, 0, 0))), (1, .inl (nI n)), (2, .inl (nI 3))], [.inl (nI n), .inl (nI 1), .inl (nI 0), .inl (nI 0), .inr (.inr (4, 0, 0))], h)) (P := True) rfl trivial ?_
    refine jt_call jm_m214 27 (mi' := 213) (as := [.inr (.inr (4, 0, 0)), .inl (nI 0), .inl (nI 0), .inl (nI 1), .inl (nI n)]) (rest := []) (nxt := 39) rfl rfl jm_m213 rfl rfl (cb_has0 R W (by omega) (by omega) (by omega)) ?_
    rintro u h1 ⟨rfl, Fh1⟩
    show jt_T 214 (39, [(4, .inl (nI 1)), (3, .inl (nI 1)), (0, .inr (.inr (4, 0, 0))), (1, .inl (nI n)), (2, .inl (nI 3))], [.inl (nI (g 0 - sp_s1 g 0 1 n))], h1) _
    have Zh1 := jg_mov0 R Fh1
    have bq1 := sp_s1_le (g := g) 0 1 n
    refine jt_go jm_m214 28 5 (f' := (45, [(4, .inl (nI 1)), (3, .inl (nI 1)), (0, .inr (.inr (4, 0, 0))), (1, .inl (nI n)), (2, .inl (nI 3))], [.inl (nI n), .inl (nI 1), .inl (nI 1), .inl (nI 0), .inr (.inr (4, 0, 0)), .inl (nI (g 0 - sp_s1 g 0 1 n))], h1)) (P := True) rfl trivial ?_
    refine jt_call jm_m214 33 (mi' := 213) (as := [.inr (.inr (4, 0, 0)), .inl (nI 0), .inl (nI 1), .inl (nI 1), .inl (nI n)]) (rest := [.inl (nI (g 0 - sp_s1 g 0 1 n))]) (nxt := 48) rfl rfl jm_m213 rfl rfl (cb_has0 Zh1 W (by omega) (by omega) (by omega)) ?_
    rintro u h2 ⟨rfl, Fh2⟩
    show jt_T 214 (48, [(4, .inl (nI 1)), (3, .inl (nI 1)), (0, .inr (.inr (4, 0, 0))), (1, .inl (nI n)), (2, .inl (nI 3))], [.inl (nI (g 0 - sp_s1 g 1 1 n)), .inl (nI (g 0 - sp_s1 g 0 1 n))], h2) _
    have Zh2 := jg_mov0 Zh1 Fh2
    have Fh2 := jg_fr_tr Fh1 Fh2
    have bq2 := sp_s1_le (g := g) 1 1 n
    refine jt_nicgt jm_m214 34 (a := g 0 - sp_s1 g 0 1 n) (b := g 0 - sp_s1 g 1 1 n) (by omega) (by omega) (tgt := 82) (nxt := 51) rfl rfl rfl (fun c48 => ?_) (fun c48 => ?_)
    · refine jt_inc jm_m214 56 (c := 3) (L' := [(2, .inl (nI 4)), (4, .inl (nI 1)), (3, .inl (nI 1)), (0, .inr (.inr (4, 0, 0))), (1, .inl (nI n))]) rfl rfl rfl rfl ?_
      refine jt_go jm_m214 57 1 (f' := (14, [(2, .inl (nI 4)), (4, .inl (nI 1)), (3, .inl (nI 1)), (0, .inr (.inr (4, 0, 0))), (1, .inl (nI n))], [], h2)) (P := True) rfl trivial ?_
      refine jt_go jm_m214 9 2 (f' := (16, [(2, .inl (nI 4)), (4, .inl (nI 1)), (3, .inl (nI 1)), (0, .inr (.inr (4, 0, 0))), (1, .inl (nI n))], [.inl (nI 4), .inl (nI 4)], h2)) (P := True) rfl trivial ?_
      refine jt_nicge jm_m214 11 (a := 4) (b := 4) (by omega) (by omega) (tgt := 88) (nxt := 19) rfl rfl rfl (fun c16 => ?_) (fun c16 => ?_)
      · refine jt_go jm_m214 58 1 (f' := (90, [(2, .inl (nI 4)), (4, .inl (nI 1)), (3, .inl (nI 1)), (0, .inr (.inr (4, 0, 0))), (1, .inl (nI n))], [.inl ((-4))], h2)) (P := True) rfl trivial ?_
        refine jt_iret jm_m214 59 rfl ?_
        exact ⟨jt_li (if_neg (by omega)).symm, Fh2⟩
      · exact absurd c16 (by decide)
    · refine jt_go jm_m214 35 6 (f' := (58, [(4, .inl (nI 1)), (3, .inl (nI 1)), (0, .inr (.inr (4, 0, 0))), (1, .inl (nI n)), (2, .inl (nI 3))], [.inl ((nI 1) - (nI 1)), .inl (nI 1), .inl (nI 1), .inr (.inr (4, 0, 0))], h2)) (P := True) rfl trivial ?_
      refine jt_ti (show ((nI 1) - (nI 1)) = nI 0 from rfl) ?_
      refine jt_go jm_m214 41 1 (f' := (59, [(4, .inl (nI 1)), (3, .inl (nI 1)), (0, .inr (.inr (4, 0, 0))), (1, .inl (nI n)), (2, .inl (nI 3))], [.inl (nI n), .inl (nI 0), .inl (nI 1), .inl (nI 1), .inr (.inr (4, 0, 0))], h2)) (P := True) rfl trivial ?_
      refine jt_call jm_m214 42 (mi' := 213) (as := [.inr (.inr (4, 0, 0)), .inl (nI 1), .inl (nI 1), .inl (nI 0), .inl (nI n)]) (rest := []) (nxt := 62) rfl rfl jm_m213 rfl rfl (cb_has1 Zh2 W (by omega) (by omega) (by omega)) ?_
      rintro u h3 ⟨rfl, Fh3⟩
      show jt_T 214 (62, [(4, .inl (nI 1)), (3, .inl (nI 1)), (0, .inr (.inr (4, 0, 0))), (1, .inl (nI n)), (2, .inl (nI 3))], [.inl (nI (sp_s1 g 1 0 n))], h3) _
      have Zh3 := jg_mov0 Zh2 Fh3
      have Fh3 := jg_fr_tr Fh2 Fh3
      have bq3 := sp_s1_le (g := g) 1 0 n
      refine jt_go jm_m214 43 5 (f' := (68, [(4, .inl (nI 1)), (3, .inl (nI 1)), (0, .inr (.inr (4, 0, 0))), (1, .inl (nI n)), (2, .inl (nI 3))], [.inl (nI n), .inl (nI 1), .inl (nI 1), .inl (nI 1), .inr (.inr (4, 0, 0)), .inl (nI (sp_s1 g 1 0 n))], h3)) (P := True) rfl trivial ?_
      refine jt_call jm_m214 48 (mi' := 213) (as := [.inr (.inr (4, 0, 0)), .inl (nI 1), .inl (nI 1), .inl (nI 1), .inl (nI n)]) (rest := [.inl (nI (sp_s1 g 1 0 n))]) (nxt := 71) rfl rfl jm_m213 rfl rfl (cb_has1 Zh3 W (by omega) (by omega) (by omega)) ?_
      rintro u h4 ⟨rfl, Fh4⟩
      show jt_T 214 (71, [(4, .inl (nI 1)), (3, .inl (nI 1)), (0, .inr (.inr (4, 0, 0))), (1, .inl (nI n)), (2, .inl (nI 3))], [.inl (nI (sp_s1 g 1 1 n)), .inl (nI (sp_s1 g 1 0 n))], h4) _
      have Zh4 := jg_mov0 Zh3 Fh4
      have Fh4 := jg_fr_tr Fh3 Fh4
      have bq4 := sp_s1_le (g := g) 1 1 n
      refine jt_nicgt jm_m214 49 (a := sp_s1 g 1 0 n) (b := sp_s1 g 1 1 n) (by omega) (by omega) (tgt := 82) (nxt := 74) rfl rfl rfl (fun c71 => ?_) (fun c71 => ?_)
      · refine jt_inc jm_m214 56 (c := 3) (L' := [(2, .inl (nI 4)), (4, .inl (nI 1)), (3, .inl (nI 1)), (0, .inr (.inr (4, 0, 0))), (1, .inl (nI n))]) rfl rfl rfl rfl ?_
        refine jt_go jm_m214 57 1 (f' := (14, [(2, .inl (nI 4)), (4, .inl (nI 1)), (3, .inl (nI 1)), (0, .inr (.inr (4, 0, 0))), (1, .inl (nI n))], [], h4)) (P := True) rfl trivial ?_
        refine jt_go jm_m214 9 2 (f' := (16, [(2, .inl (nI 4)), (4, .inl (nI 1)), (3, .inl (nI 1)), (0, .inr (.inr (4, 0, 0))), (1, .inl (nI n))], [.inl (nI 4), .inl (nI 4)], h4)) (P := True) rfl trivial ?_
        refine jt_nicge jm_m214 11 (a := 4) (b := 4) (by omega) (by omega) (tgt := 88) (nxt := 19) rfl rfl rfl (fun c16 => ?_) (fun c16 => ?_)
        · refine jt_go jm_m214 58 1 (f' := (90, [(2, .inl (nI 4)), (4, .inl (nI 1)), (3, .inl (nI 1)), (0, .inr (.inr (4, 0, 0))), (1, .inl (nI n))], [.inl ((-4))], h4)) (P := True) rfl trivial ?_
          refine jt_iret jm_m214 59 rfl ?_
          exact ⟨jt_li (if_neg (by omega)).symm, Fh4⟩
        · exact absurd c16 (by decide)
      · refine jt_go jm_m214 50 3 (f' := (78, [(4, .inl (nI 1)), (3, .inl (nI 1)), (0, .inr (.inr (4, 0, 0))), (1, .inl (nI n)), (2, .inl (nI 3))], [.inl ((nI 10) * (nI 1))], h4)) (P := True) rfl trivial ?_
        refine jt_ti (show ((nI 10) * (nI 1)) = nI 10 from rfl) ?_
        refine jt_go jm_m214 53 2 (f' := (81, [(4, .inl (nI 1)), (3, .inl (nI 1)), (0, .inr (.inr (4, 0, 0))), (1, .inl (nI n)), (2, .inl (nI 3))], [.inl ((nI 10) + (nI 1))], h4)) (P := True) rfl trivial ?_
        refine jt_ti (show ((nI 10) + (nI 1)) = nI 11 from rfl) ?_
        refine jt_iret jm_m214 55 rfl ?_
        exact ⟨jt_li (if_pos (by omega)).symm, Fh4⟩
set_option maxHeartbeats 4000000 in
set_option maxRecDepth 20000 in
theorem ca_two2 {h : jm_M} {g : Nat → Nat} (W : jw g) {n : Nat} (hnn : n ≤ 24) (R : jf_rel h 0 g) : jt_T 110 (21, [(0, .inr (.inr (0, 0, 0))), (1, .inl (nI n)), (2, .inl (nI 1)), (3, .inl (nI 0))], [], h) (fun u h' => u = some (.inl (if (sp_s1 g 1 0 n ≤ sp_s1 g 0 0 n ∧ sp_s1 g 1 1 n ≤ sp_s1 g 1 0 n) then nI 10 else (if (sp_s1 g 1 1 n ≤ sp_s1 g 0 1 n ∧ sp_s1 g 1 0 n ≤ sp_s1 g 1 1 n) then nI 11 else (-4)))) ∧ jf_fr 1 h h') := by
  have bn := jw_n W
  have bm := jw_m W
  have bt := jw_t W
  refine jt_go jm_m110 14 2 (f' := (23, [(0, .inr (.inr (0, 0, 0))), (1, .inl (nI n)), (2, .inl (nI 1)), (3, .inl (nI 0))], [.inl (nI 1), .inl (nI 0)], h)) (P := True) rfl trivial ?_
  refine jt_nicgt jm_m110 16 (a := 0) (b := 1) (by omega) (by omega) (tgt := 100) (nxt := 26) rfl rfl rfl (fun c23 => ?_) (fun c23 => ?_)
  · exact absurd c23 (by decide)
  · refine jt_go jm_m110 17 4 (f' := (30, [(0, .inr (.inr (0, 0, 0))), (1, .inl (nI n)), (2, .inl (nI 1)), (3, .inl (nI 0))], [.inl (nI n), .inl (nI 0), .inl (nI 1), .inr (.inr (0, 0, 0))], h)) (P := True) rfl trivial ?_
    refine jt_call jm_m110 21 (mi' := 111) (as := [.inr (.inr (0, 0, 0)), .inl (nI 1), .inl (nI 0), .inl (nI n)]) (rest := []) (nxt := 33) rfl rfl jm_m111 rfl rfl (ca_s1 R W (by omega) (by omega) (by omega)) ?_
    rintro u h1 ⟨rfl, Fh1⟩
    show jt_T 110 (33, [(0, .inr (.inr (0, 0, 0))), (1, .inl (nI n)), (2, .inl (nI 1)), (3, .inl (nI 0))], [.inl (nI (sp_s1 g 1 0 n))], h1) _
    have Zh1 := jf_mov0 R Fh1
    have bq1 := sp_s1_le (g := g) 1 0 n
    refine jt_go jm_m110 22 5 (f' := (39, [(4, .inl (nI (sp_s1 g 1 0 n))), (0, .inr (.inr (0, 0, 0))), (1, .inl (nI n)), (2, .inl (nI 1)), (3, .inl (nI 0))], [.inl ((nI 1) - (nI 1)), .inr (.inr (0, 0, 0))], h1)) (P := True) rfl trivial ?_
    refine jt_ti (show ((nI 1) - (nI 1)) = nI 0 from rfl) ?_
    refine jt_go jm_m110 27 2 (f' := (41, [(4, .inl (nI (sp_s1 g 1 0 n))), (0, .inr (.inr (0, 0, 0))), (1, .inl (nI n)), (2, .inl (nI 1)), (3, .inl (nI 0))], [.inl (nI n), .inl (nI 0), .inl (nI 0), .inr (.inr (0, 0, 0))], h1)) (P := True) rfl trivial ?_
    refine jt_call jm_m110 29 (mi' := 111) (as := [.inr (.inr (0, 0, 0)), .inl (nI 0), .inl (nI 0), .inl (nI n)]) (rest := []) (nxt := 44) rfl rfl jm_m111 rfl rfl (ca_s1 Zh1 W (by omega) (by omega) (by omega)) ?_
    rintro u h2 ⟨rfl, Fh2⟩
    show jt_T 110 (44, [(4, .inl (nI (sp_s1 g 1 0 n))), (0, .inr (.inr (0, 0, 0))), (1, .inl (nI n)), (2, .inl (nI 1)), (3, .inl (nI 0))], [.inl (nI (sp_s1 g 0 0 n))], h2) _
    have Zh2 := jf_mov0 Zh1 Fh2
    have Fh2 := jf_fr_tr Fh1 Fh2
    have bq2 := sp_s1_le (g := g) 0 0 n
    refine jt_go jm_m110 30 1 (f' := (46, [(4, .inl (nI (sp_s1 g 1 0 n))), (0, .inr (.inr (0, 0, 0))), (1, .inl (nI n)), (2, .inl (nI 1)), (3, .inl (nI 0))], [.inl (nI (sp_s1 g 1 0 n)), .inl (nI (sp_s1 g 0 0 n))], h2)) (P := True) rfl trivial ?_
    refine jt_niclt jm_m110 31 (a := sp_s1 g 0 0 n) (b := sp_s1 g 1 0 n) (by omega) (by omega) (tgt := 53) (nxt := 49) rfl rfl rfl (fun c46 => ?_) (fun c46 => ?_)
    · refine jt_go jm_m110 34 7 (f' := (61, [(5, .inl (nI 0)), (4, .inl (nI (sp_s1 g 1 0 n))), (0, .inr (.inr (0, 0, 0))), (1, .inl (nI n)), (2, .inl (nI 1)), (3, .inl (nI 0))], [.inl ((nI 1) - (nI 0)), .inl (nI 1), .inr (.inr (0, 0, 0))], h2)) (P := True) rfl trivial ?_
      refine jt_ti (show ((nI 1) - (nI 0)) = nI 1 from rfl) ?_
      refine jt_go jm_m110 41 1 (f' := (62, [(5, .inl (nI 0)), (4, .inl (nI (sp_s1 g 1 0 n))), (0, .inr (.inr (0, 0, 0))), (1, .inl (nI n)), (2, .inl (nI 1)), (3, .inl (nI 0))], [.inl (nI n), .inl (nI 1), .inl (nI 1), .inr (.inr (0, 0, 0))], h2)) (P := True) rfl trivial ?_
      refine jt_call jm_m110 42 (mi' := 111) (as := [.inr (.inr (0, 0, 0)), .inl (nI 1), .inl (nI 1), .inl (nI n)]) (rest := []) (nxt := 65) rfl rfl jm_m111 rfl rfl (ca_s1 Zh2 W (by omega) (by omega) (by omega)) ?_
      rintro u h3 ⟨rfl, Fh3⟩
      show jt_T 110 (65, [(5, .inl (nI 0)), (4, .inl (nI (sp_s1 g 1 0 n))), (0, .inr (.inr (0, 0, 0))), (1, .inl (nI n)), (2, .inl (nI 1)), (3, .inl (nI 0))], [.inl (nI (sp_s1 g 1 1 n))], h3) _
      have Zh3 := jf_mov0 Zh2 Fh3
      have Fh3 := jf_fr_tr Fh2 Fh3
      have bq3 := sp_s1_le (g := g) 1 1 n
      refine jt_go jm_m110 43 1 (f' := (67, [(5, .inl (nI 0)), (4, .inl (nI (sp_s1 g 1 0 n))), (0, .inr (.inr (0, 0, 0))), (1, .inl (nI n)), (2, .inl (nI 1)), (3, .inl (nI 0))], [.inl (nI (sp_s1 g 1 0 n)), .inl (nI (sp_s1 g 1 1 n))], h3)) (P := True) rfl trivial ?_
      refine jt_nicgt jm_m110 44 (a := sp_s1 g 1 1 n) (b := sp_s1 g 1 0 n) (by omega) (by omega) (tgt := 74) (nxt := 70) rfl rfl rfl (fun c67 => ?_) (fun c67 => ?_)
      · refine jt_go jm_m110 47 3 (f' := (79, [(6, .inl (nI 0)), (5, .inl (nI 0)), (4, .inl (nI (sp_s1 g 1 0 n))), (0, .inr (.inr (0, 0, 0))), (1, .inl (nI n)), (2, .inl (nI 1)), (3, .inl (nI 0))], [.inl (nI 0)], h3)) (P := True) rfl trivial ?_
        refine jt_nifeq jm_m110 50 (by omega) (tgt := 94) (nxt := 82) rfl rfl rfl (fun c79 => ?_) (fun c79 => ?_)
        · refine jt_inc jm_m110 59 (c := 0) (L' := [(3, .inl (nI 1)), (6, .inl (nI 0)), (5, .inl (nI 0)), (4, .inl (nI (sp_s1 g 1 0 n))), (0, .inr (.inr (0, 0, 0))), (1, .inl (nI n)), (2, .inl (nI 1))]) rfl rfl rfl rfl ?_
          refine jt_go jm_m110 60 1 (f' := (21, [(3, .inl (nI 1)), (6, .inl (nI 0)), (5, .inl (nI 0)), (4, .inl (nI (sp_s1 g 1 0 n))), (0, .inr (.inr (0, 0, 0))), (1, .inl (nI n)), (2, .inl (nI 1))], [], h3)) (P := True) rfl trivial ?_
          refine jt_pick (L' := [(0, .inr (.inr (0, 0, 0))), (1, .inl (nI n)), (2, .inl (nI 1)), (3, .inl (nI 1))]) [4, 5, 6, 0] rfl ?_
          refine jt_mono (ca_two3 W hnn Zh3) (fun u h2 zz => ⟨zz.1.trans (jt_li (if_neg (by omega)).symm), jf_fr_tr Fh3 zz.2⟩)
        · exact absurd c79 (by decide)
      · refine jt_go jm_m110 45 2 (f' := (75, [(5, .inl (nI 0)), (4, .inl (nI (sp_s1 g 1 0 n))), (0, .inr (.inr (0, 0, 0))), (1, .inl (nI n)), (2, .inl (nI 1)), (3, .inl (nI 0))], [.inl (nI 1)], h3)) (P := True) rfl trivial ?_
        refine jt_go jm_m110 48 2 (f' := (79, [(6, .inl (nI 1)), (5, .inl (nI 0)), (4, .inl (nI (sp_s1 g 1 0 n))), (0, .inr (.inr (0, 0, 0))), (1, .inl (nI n)), (2, .inl (nI 1)), (3, .inl (nI 0))], [.inl (nI 0)], h3)) (P := True) rfl trivial ?_
        refine jt_nifeq jm_m110 50 (by omega) (tgt := 94) (nxt := 82) rfl rfl rfl (fun c79 => ?_) (fun c79 => ?_)
        · refine jt_inc jm_m110 59 (c := 0) (L' := [(3, .inl (nI 1)), (6, .inl (nI 1)), (5, .inl (nI 0)), (4, .inl (nI (sp_s1 g 1 0 n))), (0, .inr (.inr (0, 0, 0))), (1, .inl (nI n)), (2, .inl (nI 1))]) rfl rfl rfl rfl ?_
          refine jt_go jm_m110 60 1 (f' := (21, [(3, .inl (nI 1)), (6, .inl (nI 1)), (5, .inl (nI 0)), (4, .inl (nI (sp_s1 g 1 0 n))), (0, .inr (.inr (0, 0, 0))), (1, .inl (nI n)), (2, .inl (nI 1))], [], h3)) (P := True) rfl trivial ?_
          refine jt_pick (L' := [(0, .inr (.inr (0, 0, 0))), (1, .inl (nI n)), (2, .inl (nI 1)), (3, .inl (nI 1))]) [4, 5, 6, 0] rfl ?_
          refine jt_mono (ca_two3 W hnn Zh3) (fun u h2 zz => ⟨zz.1.trans (jt_li (if_neg (by omega)).symm), jf_fr_tr Fh3 zz.2⟩)
        · exact absurd c79 (by decide)
    · refine jt_go jm_m110 32 2 (f' := (54, [(4, .inl (nI (sp_s1 g 1 0 n))), (0, .inr (.inr (0, 0, 0))), (1, .inl (nI n)), (2, .inl (nI 1)), (3, .inl (nI 0))], [.inl (nI 1)], h2)) (P := True) rfl trivial ?_
      refine jt_go jm_m110 35 6 (f' := (61, [(5, .inl (nI 1)), (4, .inl (nI (sp_s1 g 1 0 n))), (0, .inr (.inr (0, 0, 0))), (1, .inl (nI n)), (2, .inl (nI 1)), (3, .inl (nI 0))], [.inl ((nI 1) - (nI 0)), .inl (nI 1), .inr (.inr (0, 0, 0))], h2)) (P := True) rfl trivial ?_
      refine jt_ti (show ((nI 1) - (nI 0)) = nI 1 from rfl) ?_
      refine jt_go jm_m110 41 1 (f' := (62, [(5, .inl (nI 1)), (4, .inl (nI (sp_s1 g 1 0 n))), (0, .inr (.inr (0, 0, 0))), (1, .inl (nI n)), (2, .inl (nI 1)), (3, .inl (nI 0))], [.inl (nI n), .inl (nI 1), .inl (nI 1), .inr (.inr (0, 0, 0))], h2)) (P := True) rfl trivial ?_
      refine jt_call jm_m110 42 (mi' := 111) (as := [.inr (.inr (0, 0, 0)), .inl (nI 1), .inl (nI 1), .inl (nI n)]) (rest := []) (nxt := 65) rfl rfl jm_m111 rfl rfl (ca_s1 Zh2 W (by omega) (by omega) (by omega)) ?_
      rintro u h4 ⟨rfl, Fh4⟩
      show jt_T 110 (65, [(5, .inl (nI 1)), (4, .inl (nI (sp_s1 g 1 0 n))), (0, .inr (.inr (0, 0, 0))), (1, .inl (nI n)), (2, .inl (nI 1)), (3, .inl (nI 0))], [.inl (nI (sp_s1 g 1 1 n))], h4) _
      have Zh4 := jf_mov0 Zh2 Fh4
      have Fh4 := jf_fr_tr Fh2 Fh4
      have bq4 := sp_s1_le (g := g) 1 1 n
      refine jt_go jm_m110 43 1 (f' := (67, [(5, .inl (nI 1)), (4, .inl (nI (sp_s1 g 1 0 n))), (0, .inr (.inr (0, 0, 0))), (1, .inl (nI n)), (2, .inl (nI 1)), (3, .inl (nI 0))], [.inl (nI (sp_s1 g 1 0 n)), .inl (nI (sp_s1 g 1 1 n))], h4)) (P := True) rfl trivial ?_
      refine jt_nicgt jm_m110 44 (a := sp_s1 g 1 1 n) (b := sp_s1 g 1 0 n) (by omega) (by omega) (tgt := 74) (nxt := 70) rfl rfl rfl (fun c67 => ?_) (fun c67 => ?_)
      · refine jt_go jm_m110 47 3 (f' := (79, [(6, .inl (nI 0)), (5, .inl (nI 1)), (4, .inl (nI (sp_s1 g 1 0 n))), (0, .inr (.inr (0, 0, 0))), (1, .inl (nI n)), (2, .inl (nI 1)), (3, .inl (nI 0))], [.inl (nI 1)], h4)) (P := True) rfl trivial ?_
        refine jt_nifeq jm_m110 50 (by omega) (tgt := 94) (nxt := 82) rfl rfl rfl (fun c79 => ?_) (fun c79 => ?_)
        · exact absurd c79 (by decide)
        · refine jt_go jm_m110 51 1 (f' := (84, [(6, .inl (nI 0)), (5, .inl (nI 1)), (4, .inl (nI (sp_s1 g 1 0 n))), (0, .inr (.inr (0, 0, 0))), (1, .inl (nI n)), (2, .inl (nI 1)), (3, .inl (nI 0))], [.inl (nI 0)], h4)) (P := True) rfl trivial ?_
          refine jt_nifeq jm_m110 52 (by omega) (tgt := 94) (nxt := 87) rfl rfl rfl (fun c84 => ?_) (fun c84 => ?_)
          · refine jt_inc jm_m110 59 (c := 0) (L' := [(3, .inl (nI 1)), (6, .inl (nI 0)), (5, .inl (nI 1)), (4, .inl (nI (sp_s1 g 1 0 n))), (0, .inr (.inr (0, 0, 0))), (1, .inl (nI n)), (2, .inl (nI 1))]) rfl rfl rfl rfl ?_
            refine jt_go jm_m110 60 1 (f' := (21, [(3, .inl (nI 1)), (6, .inl (nI 0)), (5, .inl (nI 1)), (4, .inl (nI (sp_s1 g 1 0 n))), (0, .inr (.inr (0, 0, 0))), (1, .inl (nI n)), (2, .inl (nI 1))], [], h4)) (P := True) rfl trivial ?_
            refine jt_pick (L' := [(0, .inr (.inr (0, 0, 0))), (1, .inl (nI n)), (2, .inl (nI 1)), (3, .inl (nI 1))]) [4, 5, 6, 0] rfl ?_
            refine jt_mono (ca_two3 W hnn Zh4) (fun u h2 zz => ⟨zz.1.trans (jt_li (if_neg (by omega)).symm), jf_fr_tr Fh4 zz.2⟩)
          · exact absurd c84 (by decide)
      · refine jt_go jm_m110 45 2 (f' := (75, [(5, .inl (nI 1)), (4, .inl (nI (sp_s1 g 1 0 n))), (0, .inr (.inr (0, 0, 0))), (1, .inl (nI n)), (2, .inl (nI 1)), (3, .inl (nI 0))], [.inl (nI 1)], h4)) (P := True) rfl trivial ?_
        refine jt_go jm_m110 48 2 (f' := (79, [(6, .inl (nI 1)), (5, .inl (nI 1)), (4, .inl (nI (sp_s1 g 1 0 n))), (0, .inr (.inr (0, 0, 0))), (1, .inl (nI n)), (2, .inl (nI 1)), (3, .inl (nI 0))], [.inl (nI 1)], h4)) (P := True) rfl trivial ?_
        refine jt_nifeq jm_m110 50 (by omega) (tgt := 94) (nxt := 82) rfl rfl rfl (fun c79 => ?_) (fun c79 => ?_)
        · exact absurd c79 (by decide)
        · refine jt_go jm_m110 51 1 (f' := (84, [(6, .inl (nI 1)), (5, .inl (nI 1)), (4, .inl (nI (sp_s1 g 1 0 n))), (0, .inr (.inr (0, 0, 0))), (1, .inl (nI n)), (2, .inl (nI 1)), (3, .inl (nI 0))], [.inl (nI 1)], h4)) (P := True) rfl trivial ?_
          refine jt_nifeq jm_m110 52 (by omega) (tgt := 94) (nxt := 87) rfl rfl rfl (fun c84 => ?_) (fun c84 => ?_)
          · exact absurd c84 (by decide)
          · refine jt_go jm_m110 53 3 (f' := (91, [(6, .inl (nI 1)), (5, .inl (nI 1)), (4, .inl (nI (sp_s1 g 1 0 n))), (0, .inr (.inr (0, 0, 0))), (1, .inl (nI n)), (2, .inl (nI 1)), (3, .inl (nI 0))], [.inl ((nI 10) * (nI 1))], h4)) (P := True) rfl trivial ?_
            refine jt_ti (show ((nI 10) * (nI 1)) = nI 10 from rfl) ?_
            refine jt_go jm_m110 56 2 (f' := (93, [(6, .inl (nI 1)), (5, .inl (nI 1)), (4, .inl (nI (sp_s1 g 1 0 n))), (0, .inr (.inr (0, 0, 0))), (1, .inl (nI n)), (2, .inl (nI 1)), (3, .inl (nI 0))], [.inl ((nI 10) + (nI 0))], h4)) (P := True) rfl trivial ?_
            refine jt_ti (show ((nI 10) + (nI 0)) = nI 10 from rfl) ?_
            refine jt_iret jm_m110 58 rfl ?_
            exact ⟨jt_li (if_pos (by omega)).symm, Fh4⟩
set_option maxHeartbeats 4000000 in
set_option maxRecDepth 20000 in
theorem cb_two2 {h : jm_M} {g : Nat → Nat} (W : jw g) {n : Nat} (hnn : n ≤ 24) (R : jg_rel h 0 g) : jt_T 214 (14, [(0, .inr (.inr (4, 0, 0))), (1, .inl (nI n)), (2, .inl (nI 2))], [], h) (fun u h' => u = some (.inl (if (sp_s1 g 1 0 n ≤ sp_s1 g 0 0 n ∧ sp_s1 g 1 1 n ≤ sp_s1 g 1 0 n) then nI 10 else (if (sp_s1 g 1 1 n ≤ sp_s1 g 0 1 n ∧ sp_s1 g 1 0 n ≤ sp_s1 g 1 1 n) then nI 11 else (-4)))) ∧ jg_fr 1 h h') := by
  have bn := jw_n W
  have bm := jw_m W
  have bt := jw_t W
  refine jt_go jm_m214 9 2 (f' := (16, [(0, .inr (.inr (4, 0, 0))), (1, .inl (nI n)), (2, .inl (nI 2))], [.inl (nI 4), .inl (nI 2)], h)) (P := True) rfl trivial ?_
  refine jt_nicge jm_m214 11 (a := 2) (b := 4) (by omega) (by omega) (tgt := 88) (nxt := 19) rfl rfl rfl (fun c16 => ?_) (fun c16 => ?_)
  · exact absurd c16 (by decide)
  · refine jt_go jm_m214 12 3 (f' := (22, [(0, .inr (.inr (4, 0, 0))), (1, .inl (nI n)), (2, .inl (nI 2))], [.inl ((nI 2) / (nI 2))], h)) (P := ¬ (nI 2) = 0 ∧ True) rfl ⟨(by decide), trivial⟩ ?_
    refine jt_ti (show ((nI 2) / (nI 2)) = nI 1 from (by decide)) ?_
    refine jt_go jm_m214 15 4 (f' := (26, [(3, .inl (nI 1)), (0, .inr (.inr (4, 0, 0))), (1, .inl (nI n)), (2, .inl (nI 2))], [.inl ((nI 2) - (nI 2) / (nI 2) * (nI 2))], h)) (P := ¬ (nI 2) = 0 ∧ True) rfl ⟨(by decide), trivial⟩ ?_
    refine jt_ti (show ((nI 2) - (nI 2) / (nI 2) * (nI 2)) = nI 0 from (by decide)) ?_
    refine jt_go jm_m214 19 6 (f' := (33, [(4, .inl (nI 0)), (3, .inl (nI 1)), (0, .inr (.inr (4, 0, 0))), (1, .inl (nI n)), (2, .inl (nI 2))], [.inl ((nI 1) - (nI 1)), .inl (nI 0), .inr (.inr (4, 0, 0))], h)) (P := True) rfl trivial ?_
    refine jt_ti (show ((nI 1) - (nI 1)) = nI 0 from rfl) ?_
    refine jt_go jm_m214 25 2 (f' := (36, [(4, .inl (nI 0)), (3, .inl (nI 1)), (0, .inr (.inr (4, 0, 0))), (1, .inl (nI n)), (2, .inl (nI 2))], [.inl (nI n), .inl (nI 0), .inl (nI 0), .inl (nI 0), .inr (.inr (4, 0, 0))], h)) (P := True) rfl trivial ?_
    refine jt_call jm_m214 27 (mi' := 213) (as := [.inr (.inr (4, 0, 0)), .inl (nI 0), .inl (nI 0), .inl (nI 0), .inl (nI n)]) (rest := []) (nxt := 39) rfl rfl jm_m213 rfl rfl (cb_has0 R W (by omega) (by omega) (by omega)) ?_
    rintro u h1 ⟨rfl, Fh1⟩
    show jt_T 214 (39, [(4, .inl (nI 0)), (3, .inl (nI 1)), (0, .inr (.inr (4, 0, 0))), (1, .inl (nI n)), (2, .inl (nI 2))], [.inl (nI (g 0 - sp_s1 g 0 0 n))], h1) _
    have Zh1 := jg_mov0 R Fh1
    have bq1 := sp_s1_le (g := g) 0 0 n
    refine jt_go jm_m214 28 5 (f' := (45, [(4, .inl (nI 0)), (3, .inl (nI 1)), (0, .inr (.inr (4, 0, 0))), (1, .inl (nI n)), (2, .inl (nI 2))], [.inl (nI n), .inl (nI 0), .inl (nI 1), .inl (nI 0), .inr (.inr (4, 0, 0)), .inl (nI (g 0 - sp_s1 g 0 0 n))], h1)) (P := True) rfl trivial ?_
    refine jt_call jm_m214 33 (mi' := 213) (as := [.inr (.inr (4, 0, 0)), .inl (nI 0), .inl (nI 1), .inl (nI 0), .inl (nI n)]) (rest := [.inl (nI (g 0 - sp_s1 g 0 0 n))]) (nxt := 48) rfl rfl jm_m213 rfl rfl (cb_has0 Zh1 W (by omega) (by omega) (by omega)) ?_
    rintro u h2 ⟨rfl, Fh2⟩
    show jt_T 214 (48, [(4, .inl (nI 0)), (3, .inl (nI 1)), (0, .inr (.inr (4, 0, 0))), (1, .inl (nI n)), (2, .inl (nI 2))], [.inl (nI (g 0 - sp_s1 g 1 0 n)), .inl (nI (g 0 - sp_s1 g 0 0 n))], h2) _
    have Zh2 := jg_mov0 Zh1 Fh2
    have Fh2 := jg_fr_tr Fh1 Fh2
    have bq2 := sp_s1_le (g := g) 1 0 n
    refine jt_nicgt jm_m214 34 (a := g 0 - sp_s1 g 0 0 n) (b := g 0 - sp_s1 g 1 0 n) (by omega) (by omega) (tgt := 82) (nxt := 51) rfl rfl rfl (fun c48 => ?_) (fun c48 => ?_)
    · refine jt_inc jm_m214 56 (c := 2) (L' := [(2, .inl (nI 3)), (4, .inl (nI 0)), (3, .inl (nI 1)), (0, .inr (.inr (4, 0, 0))), (1, .inl (nI n))]) rfl rfl rfl rfl ?_
      refine jt_go jm_m214 57 1 (f' := (14, [(2, .inl (nI 3)), (4, .inl (nI 0)), (3, .inl (nI 1)), (0, .inr (.inr (4, 0, 0))), (1, .inl (nI n))], [], h2)) (P := True) rfl trivial ?_
      refine jt_pick (L' := [(0, .inr (.inr (4, 0, 0))), (1, .inl (nI n)), (2, .inl (nI 3))]) [3, 4, 0] rfl ?_
      refine jt_mono (cb_two3 W hnn Zh2) (fun u h2 zz => ⟨zz.1.trans (jt_li (if_neg (by omega)).symm), jg_fr_tr Fh2 zz.2⟩)
    · refine jt_go jm_m214 35 6 (f' := (58, [(4, .inl (nI 0)), (3, .inl (nI 1)), (0, .inr (.inr (4, 0, 0))), (1, .inl (nI n)), (2, .inl (nI 2))], [.inl ((nI 1) - (nI 0)), .inl (nI 1), .inl (nI 1), .inr (.inr (4, 0, 0))], h2)) (P := True) rfl trivial ?_
      refine jt_ti (show ((nI 1) - (nI 0)) = nI 1 from rfl) ?_
      refine jt_go jm_m214 41 1 (f' := (59, [(4, .inl (nI 0)), (3, .inl (nI 1)), (0, .inr (.inr (4, 0, 0))), (1, .inl (nI n)), (2, .inl (nI 2))], [.inl (nI n), .inl (nI 1), .inl (nI 1), .inl (nI 1), .inr (.inr (4, 0, 0))], h2)) (P := True) rfl trivial ?_
      refine jt_call jm_m214 42 (mi' := 213) (as := [.inr (.inr (4, 0, 0)), .inl (nI 1), .inl (nI 1), .inl (nI 1), .inl (nI n)]) (rest := []) (nxt := 62) rfl rfl jm_m213 rfl rfl (cb_has1 Zh2 W (by omega) (by omega) (by omega)) ?_
      rintro u h3 ⟨rfl, Fh3⟩
      show jt_T 214 (62, [(4, .inl (nI 0)), (3, .inl (nI 1)), (0, .inr (.inr (4, 0, 0))), (1, .inl (nI n)), (2, .inl (nI 2))], [.inl (nI (sp_s1 g 1 1 n))], h3) _
      have Zh3 := jg_mov0 Zh2 Fh3
      have Fh3 := jg_fr_tr Fh2 Fh3
      have bq3 := sp_s1_le (g := g) 1 1 n
      refine jt_go jm_m214 43 5 (f' := (68, [(4, .inl (nI 0)), (3, .inl (nI 1)), (0, .inr (.inr (4, 0, 0))), (1, .inl (nI n)), (2, .inl (nI 2))], [.inl (nI n), .inl (nI 0), .inl (nI 1), .inl (nI 1), .inr (.inr (4, 0, 0)), .inl (nI (sp_s1 g 1 1 n))], h3)) (P := True) rfl trivial ?_
      refine jt_call jm_m214 48 (mi' := 213) (as := [.inr (.inr (4, 0, 0)), .inl (nI 1), .inl (nI 1), .inl (nI 0), .inl (nI n)]) (rest := [.inl (nI (sp_s1 g 1 1 n))]) (nxt := 71) rfl rfl jm_m213 rfl rfl (cb_has1 Zh3 W (by omega) (by omega) (by omega)) ?_
      rintro u h4 ⟨rfl, Fh4⟩
      show jt_T 214 (71, [(4, .inl (nI 0)), (3, .inl (nI 1)), (0, .inr (.inr (4, 0, 0))), (1, .inl (nI n)), (2, .inl (nI 2))], [.inl (nI (sp_s1 g 1 0 n)), .inl (nI (sp_s1 g 1 1 n))], h4) _
      have Zh4 := jg_mov0 Zh3 Fh4
      have Fh4 := jg_fr_tr Fh3 Fh4
      have bq4 := sp_s1_le (g := g) 1 0 n
      refine jt_nicgt jm_m214 49 (a := sp_s1 g 1 1 n) (b := sp_s1 g 1 0 n) (by omega) (by omega) (tgt := 82) (nxt := 74) rfl rfl rfl (fun c71 => ?_) (fun c71 => ?_)
      · refine jt_inc jm_m214 56 (c := 2) (L' := [(2, .inl (nI 3)), (4, .inl (nI 0)), (3, .inl (nI 1)), (0, .inr (.inr (4, 0, 0))), (1, .inl (nI n))]) rfl rfl rfl rfl ?_
        refine jt_go jm_m214 57 1 (f' := (14, [(2, .inl (nI 3)), (4, .inl (nI 0)), (3, .inl (nI 1)), (0, .inr (.inr (4, 0, 0))), (1, .inl (nI n))], [], h4)) (P := True) rfl trivial ?_
        refine jt_pick (L' := [(0, .inr (.inr (4, 0, 0))), (1, .inl (nI n)), (2, .inl (nI 3))]) [3, 4, 0] rfl ?_
        refine jt_mono (cb_two3 W hnn Zh4) (fun u h2 zz => ⟨zz.1.trans (jt_li (if_neg (by omega)).symm), jg_fr_tr Fh4 zz.2⟩)
      · refine jt_go jm_m214 50 3 (f' := (78, [(4, .inl (nI 0)), (3, .inl (nI 1)), (0, .inr (.inr (4, 0, 0))), (1, .inl (nI n)), (2, .inl (nI 2))], [.inl ((nI 10) * (nI 1))], h4)) (P := True) rfl trivial ?_
        refine jt_ti (show ((nI 10) * (nI 1)) = nI 10 from rfl) ?_
        refine jt_go jm_m214 53 2 (f' := (81, [(4, .inl (nI 0)), (3, .inl (nI 1)), (0, .inr (.inr (4, 0, 0))), (1, .inl (nI n)), (2, .inl (nI 2))], [.inl ((nI 10) + (nI 0))], h4)) (P := True) rfl trivial ?_
        refine jt_ti (show ((nI 10) + (nI 0)) = nI 10 from rfl) ?_
        refine jt_iret jm_m214 55 rfl ?_
        exact ⟨jt_li (if_pos (by omega)).symm, Fh4⟩
set_option maxHeartbeats 4000000 in
set_option maxRecDepth 20000 in
theorem ca_two1 {h : jm_M} {g : Nat → Nat} (W : jw g) {n : Nat} (hnn : n ≤ 24) (R : jf_rel h 0 g) : jt_T 110 (21, [(0, .inr (.inr (0, 0, 0))), (1, .inl (nI n)), (2, .inl (nI 0)), (3, .inl (nI 1))], [], h) (fun u h' => u = some (.inl (if (sp_s1 g 0 1 n ≤ sp_s1 g 1 1 n ∧ sp_s1 g 0 0 n ≤ sp_s1 g 0 1 n) then nI 1 else (if (sp_s1 g 1 0 n ≤ sp_s1 g 0 0 n ∧ sp_s1 g 1 1 n ≤ sp_s1 g 1 0 n) then nI 10 else (if (sp_s1 g 1 1 n ≤ sp_s1 g 0 1 n ∧ sp_s1 g 1 0 n ≤ sp_s1 g 1 1 n) then nI 11 else (-4))))) ∧ jf_fr 1 h h') := by
  have bn := jw_n W
  have bm := jw_m W
  have bt := jw_t W
  refine jt_go jm_m110 14 2 (f' := (23, [(0, .inr (.inr (0, 0, 0))), (1, .inl (nI n)), (2, .inl (nI 0)), (3, .inl (nI 1))], [.inl (nI 1), .inl (nI 1)], h)) (P := True) rfl trivial ?_
  refine jt_nicgt jm_m110 16 (a := 1) (b := 1) (by omega) (by omega) (tgt := 100) (nxt := 26) rfl rfl rfl (fun c23 => ?_) (fun c23 => ?_)
  · exact absurd c23 (by decide)
  · refine jt_go jm_m110 17 4 (f' := (30, [(0, .inr (.inr (0, 0, 0))), (1, .inl (nI n)), (2, .inl (nI 0)), (3, .inl (nI 1))], [.inl (nI n), .inl (nI 1), .inl (nI 0), .inr (.inr (0, 0, 0))], h)) (P := True) rfl trivial ?_
    refine jt_call jm_m110 21 (mi' := 111) (as := [.inr (.inr (0, 0, 0)), .inl (nI 0), .inl (nI 1), .inl (nI n)]) (rest := []) (nxt := 33) rfl rfl jm_m111 rfl rfl (ca_s1 R W (by omega) (by omega) (by omega)) ?_
    rintro u h1 ⟨rfl, Fh1⟩
    show jt_T 110 (33, [(0, .inr (.inr (0, 0, 0))), (1, .inl (nI n)), (2, .inl (nI 0)), (3, .inl (nI 1))], [.inl (nI (sp_s1 g 0 1 n))], h1) _
    have Zh1 := jf_mov0 R Fh1
    have bq1 := sp_s1_le (g := g) 0 1 n
    refine jt_go jm_m110 22 5 (f' := (39, [(4, .inl (nI (sp_s1 g 0 1 n))), (0, .inr (.inr (0, 0, 0))), (1, .inl (nI n)), (2, .inl (nI 0)), (3, .inl (nI 1))], [.inl ((nI 1) - (nI 0)), .inr (.inr (0, 0, 0))], h1)) (P := True) rfl trivial ?_
    refine jt_ti (show ((nI 1) - (nI 0)) = nI 1 from rfl) ?_
    refine jt_go jm_m110 27 2 (f' := (41, [(4, .inl (nI (sp_s1 g 0 1 n))), (0, .inr (.inr (0, 0, 0))), (1, .inl (nI n)), (2, .inl (nI 0)), (3, .inl (nI 1))], [.inl (nI n), .inl (nI 1), .inl (nI 1), .inr (.inr (0, 0, 0))], h1)) (P := True) rfl trivial ?_
    refine jt_call jm_m110 29 (mi' := 111) (as := [.inr (.inr (0, 0, 0)), .inl (nI 1), .inl (nI 1), .inl (nI n)]) (rest := []) (nxt := 44) rfl rfl jm_m111 rfl rfl (ca_s1 Zh1 W (by omega) (by omega) (by omega)) ?_
    rintro u h2 ⟨rfl, Fh2⟩
    show jt_T 110 (44, [(4, .inl (nI (sp_s1 g 0 1 n))), (0, .inr (.inr (0, 0, 0))), (1, .inl (nI n)), (2, .inl (nI 0)), (3, .inl (nI 1))], [.inl (nI (sp_s1 g 1 1 n))], h2) _
    have Zh2 := jf_mov0 Zh1 Fh2
    have Fh2 := jf_fr_tr Fh1 Fh2
    have bq2 := sp_s1_le (g := g) 1 1 n
    refine jt_go jm_m110 30 1 (f' := (46, [(4, .inl (nI (sp_s1 g 0 1 n))), (0, .inr (.inr (0, 0, 0))), (1, .inl (nI n)), (2, .inl (nI 0)), (3, .inl (nI 1))], [.inl (nI (sp_s1 g 0 1 n)), .inl (nI (sp_s1 g 1 1 n))], h2)) (P := True) rfl trivial ?_
    refine jt_niclt jm_m110 31 (a := sp_s1 g 1 1 n) (b := sp_s1 g 0 1 n) (by omega) (by omega) (tgt := 53) (nxt := 49) rfl rfl rfl (fun c46 => ?_) (fun c46 => ?_)
    · refine jt_go jm_m110 34 7 (f' := (61, [(5, .inl (nI 0)), (4, .inl (nI (sp_s1 g 0 1 n))), (0, .inr (.inr (0, 0, 0))), (1, .inl (nI n)), (2, .inl (nI 0)), (3, .inl (nI 1))], [.inl ((nI 1) - (nI 1)), .inl (nI 0), .inr (.inr (0, 0, 0))], h2)) (P := True) rfl trivial ?_
      refine jt_ti (show ((nI 1) - (nI 1)) = nI 0 from rfl) ?_
      refine jt_go jm_m110 41 1 (f' := (62, [(5, .inl (nI 0)), (4, .inl (nI (sp_s1 g 0 1 n))), (0, .inr (.inr (0, 0, 0))), (1, .inl (nI n)), (2, .inl (nI 0)), (3, .inl (nI 1))], [.inl (nI n), .inl (nI 0), .inl (nI 0), .inr (.inr (0, 0, 0))], h2)) (P := True) rfl trivial ?_
      refine jt_call jm_m110 42 (mi' := 111) (as := [.inr (.inr (0, 0, 0)), .inl (nI 0), .inl (nI 0), .inl (nI n)]) (rest := []) (nxt := 65) rfl rfl jm_m111 rfl rfl (ca_s1 Zh2 W (by omega) (by omega) (by omega)) ?_
      rintro u h3 ⟨rfl, Fh3⟩
      show jt_T 110 (65, [(5, .inl (nI 0)), (4, .inl (nI (sp_s1 g 0 1 n))), (0, .inr (.inr (0, 0, 0))), (1, .inl (nI n)), (2, .inl (nI 0)), (3, .inl (nI 1))], [.inl (nI (sp_s1 g 0 0 n))], h3) _
      have Zh3 := jf_mov0 Zh2 Fh3
      have Fh3 := jf_fr_tr Fh2 Fh3
      have bq3 := sp_s1_le (g := g) 0 0 n
      refine jt_go jm_m110 43 1 (f' := (67, [(5, .inl (nI 0)), (4, .inl (nI (sp_s1 g 0 1 n))), (0, .inr (.inr (0, 0, 0))), (1, .inl (nI n)), (2, .inl (nI 0)), (3, .inl (nI 1))], [.inl (nI (sp_s1 g 0 1 n)), .inl (nI (sp_s1 g 0 0 n))], h3)) (P := True) rfl trivial ?_
      refine jt_nicgt jm_m110 44 (a := sp_s1 g 0 0 n) (b := sp_s1 g 0 1 n) (by omega) (by omega) (tgt := 74) (nxt := 70) rfl rfl rfl (fun c67 => ?_) (fun c67 => ?_)
      · refine jt_go jm_m110 47 3 (f' := (79, [(6, .inl (nI 0)), (5, .inl (nI 0)), (4, .inl (nI (sp_s1 g 0 1 n))), (0, .inr (.inr (0, 0, 0))), (1, .inl (nI n)), (2, .inl (nI 0)), (3, .inl (nI 1))], [.inl (nI 0)], h3)) (P := True) rfl trivial ?_
        refine jt_nifeq jm_m110 50 (by omega) (tgt := 94) (nxt := 82) rfl rfl rfl (fun c79 => ?_) (fun c79 => ?_)
        · refine jt_inc jm_m110 59 (c := 1) (L' := [(3, .inl (nI 2)), (6, .inl (nI 0)), (5, .inl (nI 0)), (4, .inl (nI (sp_s1 g 0 1 n))), (0, .inr (.inr (0, 0, 0))), (1, .inl (nI n)), (2, .inl (nI 0))]) rfl rfl rfl rfl ?_
          refine jt_go jm_m110 60 1 (f' := (21, [(3, .inl (nI 2)), (6, .inl (nI 0)), (5, .inl (nI 0)), (4, .inl (nI (sp_s1 g 0 1 n))), (0, .inr (.inr (0, 0, 0))), (1, .inl (nI n)), (2, .inl (nI 0))], [], h3)) (P := True) rfl trivial ?_
          refine jt_go jm_m110 14 2 (f' := (23, [(3, .inl (nI 2)), (6, .inl (nI 0)), (5, .inl (nI 0)), (4, .inl (nI (sp_s1 g 0 1 n))), (0, .inr (.inr (0, 0, 0))), (1, .inl (nI n)), (2, .inl (nI 0))], [.inl (nI 1), .inl (nI 2)], h3)) (P := True) rfl trivial ?_
          refine jt_nicgt jm_m110 16 (a := 2) (b := 1) (by omega) (by omega) (tgt := 100) (nxt := 26) rfl rfl rfl (fun c23 => ?_) (fun c23 => ?_)
          · refine jt_inc jm_m110 61 (c := 0) (L' := [(2, .inl (nI 1)), (3, .inl (nI 2)), (6, .inl (nI 0)), (5, .inl (nI 0)), (4, .inl (nI (sp_s1 g 0 1 n))), (0, .inr (.inr (0, 0, 0))), (1, .inl (nI n))]) rfl rfl rfl rfl ?_
            refine jt_go jm_m110 62 1 (f' := (14, [(2, .inl (nI 1)), (3, .inl (nI 2)), (6, .inl (nI 0)), (5, .inl (nI 0)), (4, .inl (nI (sp_s1 g 0 1 n))), (0, .inr (.inr (0, 0, 0))), (1, .inl (nI n))], [], h3)) (P := True) rfl trivial ?_
            refine jt_go jm_m110 9 2 (f' := (16, [(2, .inl (nI 1)), (3, .inl (nI 2)), (6, .inl (nI 0)), (5, .inl (nI 0)), (4, .inl (nI (sp_s1 g 0 1 n))), (0, .inr (.inr (0, 0, 0))), (1, .inl (nI n))], [.inl (nI 1), .inl (nI 1)], h3)) (P := True) rfl trivial ?_
            refine jt_nicgt jm_m110 11 (a := 1) (b := 1) (by omega) (by omega) (tgt := 106) (nxt := 19) rfl rfl rfl (fun c16 => ?_) (fun c16 => ?_)
            · exact absurd c16 (by decide)
            · refine jt_go jm_m110 12 2 (f' := (21, [(3, .inl (nI 0)), (2, .inl (nI 1)), (6, .inl (nI 0)), (5, .inl (nI 0)), (4, .inl (nI (sp_s1 g 0 1 n))), (0, .inr (.inr (0, 0, 0))), (1, .inl (nI n))], [], h3)) (P := True) rfl trivial ?_
              refine jt_pick (L' := [(0, .inr (.inr (0, 0, 0))), (1, .inl (nI n)), (2, .inl (nI 1)), (3, .inl (nI 0))]) [5, 6, 1, 0] rfl ?_
              refine jt_mono (ca_two2 W hnn Zh3) (fun u h2 zz => ⟨zz.1.trans (jt_li (if_neg (by omega)).symm), jf_fr_tr Fh3 zz.2⟩)
          · exact absurd c23 (by decide)
        · exact absurd c79 (by decide)
      · refine jt_go jm_m110 45 2 (f' := (75, [(5, .inl (nI 0)), (4, .inl (nI (sp_s1 g 0 1 n))), (0, .inr (.inr (0, 0, 0))), (1, .inl (nI n)), (2, .inl (nI 0)), (3, .inl (nI 1))], [.inl (nI 1)], h3)) (P := True) rfl trivial ?_
        refine jt_go jm_m110 48 2 (f' := (79, [(6, .inl (nI 1)), (5, .inl (nI 0)), (4, .inl (nI (sp_s1 g 0 1 n))), (0, .inr (.inr (0, 0, 0))), (1, .inl (nI n)), (2, .inl (nI 0)), (3, .inl (nI 1))], [.inl (nI 0)], h3)) (P := True) rfl trivial ?_
        refine jt_nifeq jm_m110 50 (by omega) (tgt := 94) (nxt := 82) rfl rfl rfl (fun c79 => ?_) (fun c79 => ?_)
        · refine jt_inc jm_m110 59 (c := 1) (L' := [(3, .inl (nI 2)), (6, .inl (nI 1)), (5, .inl (nI 0)), (4, .inl (nI (sp_s1 g 0 1 n))), (0, .inr (.inr (0, 0, 0))), (1, .inl (nI n)), (2, .inl (nI 0))]) rfl rfl rfl rfl ?_
          refine jt_go jm_m110 60 1 (f' := (21, [(3, .inl (nI 2)), (6, .inl (nI 1)), (5, .inl (nI 0)), (4, .inl (nI (sp_s1 g 0 1 n))), (0, .inr (.inr (0, 0, 0))), (1, .inl (nI n)), (2, .inl (nI 0))], [], h3)) (P := True) rfl trivial ?_
          refine jt_go jm_m110 14 2 (f' := (23, [(3, .inl (nI 2)), (6, .inl (nI 1)), (5, .inl (nI 0)), (4, .inl (nI (sp_s1 g 0 1 n))), (0, .inr (.inr (0, 0, 0))), (1, .inl (nI n)), (2, .inl (nI 0))], [.inl (nI 1), .inl (nI 2)], h3)) (P := True) rfl trivial ?_
          refine jt_nicgt jm_m110 16 (a := 2) (b := 1) (by omega) (by omega) (tgt := 100) (nxt := 26) rfl rfl rfl (fun c23 => ?_) (fun c23 => ?_)
          · refine jt_inc jm_m110 61 (c := 0) (L' := [(2, .inl (nI 1)), (3, .inl (nI 2)), (6, .inl (nI 1)), (5, .inl (nI 0)), (4, .inl (nI (sp_s1 g 0 1 n))), (0, .inr (.inr (0, 0, 0))), (1, .inl (nI n))]) rfl rfl rfl rfl ?_
            refine jt_go jm_m110 62 1 (f' := (14, [(2, .inl (nI 1)), (3, .inl (nI 2)), (6, .inl (nI 1)), (5, .inl (nI 0)), (4, .inl (nI (sp_s1 g 0 1 n))), (0, .inr (.inr (0, 0, 0))), (1, .inl (nI n))], [], h3)) (P := True) rfl trivial ?_
            refine jt_go jm_m110 9 2 (f' := (16, [(2, .inl (nI 1)), (3, .inl (nI 2)), (6, .inl (nI 1)), (5, .inl (nI 0)), (4, .inl (nI (sp_s1 g 0 1 n))), (0, .inr (.inr (0, 0, 0))), (1, .inl (nI n))], [.inl (nI 1), .inl (nI 1)], h3)) (P := True) rfl trivial ?_
            refine jt_nicgt jm_m110 11 (a := 1) (b := 1) (by omega) (by omega) (tgt := 106) (nxt := 19) rfl rfl rfl (fun c16 => ?_) (fun c16 => ?_)
            · exact absurd c16 (by decide)
            · refine jt_go jm_m110 12 2 (f' := (21, [(3, .inl (nI 0)), (2, .inl (nI 1)), (6, .inl (nI 1)), (5, .inl (nI 0)), (4, .inl (nI (sp_s1 g 0 1 n))), (0, .inr (.inr (0, 0, 0))), (1, .inl (nI n))], [], h3)) (P := True) rfl trivial ?_
              refine jt_pick (L' := [(0, .inr (.inr (0, 0, 0))), (1, .inl (nI n)), (2, .inl (nI 1)), (3, .inl (nI 0))]) [5, 6, 1, 0] rfl ?_
              refine jt_mono (ca_two2 W hnn Zh3) (fun u h2 zz => ⟨zz.1.trans (jt_li (if_neg (by omega)).symm), jf_fr_tr Fh3 zz.2⟩)
          · exact absurd c23 (by decide)
        · exact absurd c79 (by decide)
    · refine jt_go jm_m110 32 2 (f' := (54, [(4, .inl (nI (sp_s1 g 0 1 n))), (0, .inr (.inr (0, 0, 0))), (1, .inl (nI n)), (2, .inl (nI 0)), (3, .inl (nI 1))], [.inl (nI 1)], h2)) (P := True) rfl trivial ?_
      refine jt_go jm_m110 35 6 (f' := (61, [(5, .inl (nI 1)), (4, .inl (nI (sp_s1 g 0 1 n))), (0, .inr (.inr (0, 0, 0))), (1, .inl (nI n)), (2, .inl (nI 0)), (3, .inl (nI 1))], [.inl ((nI 1) - (nI 1)), .inl (nI 0), .inr (.inr (0, 0, 0))], h2)) (P := True) rfl trivial ?_
      refine jt_ti (show ((nI 1) - (nI 1)) = nI 0 from rfl) ?_
      refine jt_go jm_m110 41 1 (f' := (62, [(5, .inl (nI 1)), (4, .inl (nI (sp_s1 g 0 1 n))), (0, .inr (.inr (0, 0, 0))), (1, .inl (nI n)), (2, .inl (nI 0)), (3, .inl (nI 1))], [.inl (nI n), .inl (nI 0), .inl (nI 0), .inr (.inr (0, 0, 0))], h2)) (P := True) rfl trivial ?_
      refine jt_call jm_m110 42 (mi' := 111) (as := [.inr (.inr (0, 0, 0)), .inl (nI 0), .inl (nI 0), .inl (nI n)]) (rest := []) (nxt := 65) rfl rfl jm_m111 rfl rfl (ca_s1 Zh2 W (by omega) (by omega) (by omega)) ?_
      rintro u h4 ⟨rfl, Fh4⟩
      show jt_T 110 (65, [(5, .inl (nI 1)), (4, .inl (nI (sp_s1 g 0 1 n))), (0, .inr (.inr (0, 0, 0))), (1, .inl (nI n)), (2, .inl (nI 0)), (3, .inl (nI 1))], [.inl (nI (sp_s1 g 0 0 n))], h4) _
      have Zh4 := jf_mov0 Zh2 Fh4
      have Fh4 := jf_fr_tr Fh2 Fh4
      have bq4 := sp_s1_le (g := g) 0 0 n
      refine jt_go jm_m110 43 1 (f' := (67, [(5, .inl (nI 1)), (4, .inl (nI (sp_s1 g 0 1 n))), (0, .inr (.inr (0, 0, 0))), (1, .inl (nI n)), (2, .inl (nI 0)), (3, .inl (nI 1))], [.inl (nI (sp_s1 g 0 1 n)), .inl (nI (sp_s1 g 0 0 n))], h4)) (P := True) rfl trivial ?_
      refine jt_nicgt jm_m110 44 (a := sp_s1 g 0 0 n) (b := sp_s1 g 0 1 n) (by omega) (by omega) (tgt := 74) (nxt := 70) rfl rfl rfl (fun c67 => ?_) (fun c67 => ?_)
      · refine jt_go jm_m110 47 3 (f' := (79, [(6, .inl (nI 0)), (5, .inl (nI 1)), (4, .inl (nI (sp_s1 g 0 1 n))), (0, .inr (.inr (0, 0, 0))), (1, .inl (nI n)), (2, .inl (nI 0)), (3, .inl (nI 1))], [.inl (nI 1)], h4)) (P := True) rfl trivial ?_
        refine jt_nifeq jm_m110 50 (by omega) (tgt := 94) (nxt := 82) rfl rfl rfl (fun c79 => ?_) (fun c79 => ?_)
        · exact absurd c79 (by decide)
        · refine jt_go jm_m110 51 1 (f' := (84, [(6, .inl (nI 0)), (5, .inl (nI 1)), (4, .inl (nI (sp_s1 g 0 1 n))), (0, .inr (.inr (0, 0, 0))), (1, .inl (nI n)), (2, .inl (nI 0)), (3, .inl (nI 1))], [.inl (nI 0)], h4)) (P := True) rfl trivial ?_
          refine jt_nifeq jm_m110 52 (by omega) (tgt := 94) (nxt := 87) rfl rfl rfl (fun c84 => ?_) (fun c84 => ?_)
          · refine jt_inc jm_m110 59 (c := 1) (L' := [(3, .inl (nI 2)), (6, .inl (nI 0)), (5, .inl (nI 1)), (4, .inl (nI (sp_s1 g 0 1 n))), (0, .inr (.inr (0, 0, 0))), (1, .inl (nI n)), (2, .inl (nI 0))]) rfl rfl rfl rfl ?_
            refine jt_go jm_m110 60 1 (f' := (21, [(3, .inl (nI 2)), (6, .inl (nI 0)), (5, .inl (nI 1)), (4, .inl (nI (sp_s1 g 0 1 n))), (0, .inr (.inr (0, 0, 0))), (1, .inl (nI n)), (2, .inl (nI 0))], [], h4)) (P := True) rfl trivial ?_
            refine jt_go jm_m110 14 2 (f' := (23, [(3, .inl (nI 2)), (6, .inl (nI 0)), (5, .inl (nI 1)), (4, .inl (nI (sp_s1 g 0 1 n))), (0, .inr (.inr (0, 0, 0))), (1, .inl (nI n)), (2, .inl (nI 0))], [.inl (nI 1), .inl (nI 2)], h4)) (P := True) rfl trivial ?_
            refine jt_nicgt jm_m110 16 (a := 2) (b := 1) (by omega) (by omega) (tgt := 100) (nxt := 26) rfl rfl rfl (fun c23 => ?_) (fun c23 => ?_)
            · refine jt_inc jm_m110 61 (c := 0) (L' := [(2, .inl (nI 1)), (3, .inl (nI 2)), (6, .inl (nI 0)), (5, .inl (nI 1)), (4, .inl (nI (sp_s1 g 0 1 n))), (0, .inr (.inr (0, 0, 0))), (1, .inl (nI n))]) rfl rfl rfl rfl ?_
              refine jt_go jm_m110 62 1 (f' := (14, [(2, .inl (nI 1)), (3, .inl (nI 2)), (6, .inl (nI 0)), (5, .inl (nI 1)), (4, .inl (nI (sp_s1 g 0 1 n))), (0, .inr (.inr (0, 0, 0))), (1, .inl (nI n))], [], h4)) (P := True) rfl trivial ?_
              refine jt_go jm_m110 9 2 (f' := (16, [(2, .inl (nI 1)), (3, .inl (nI 2)), (6, .inl (nI 0)), (5, .inl (nI 1)), (4, .inl (nI (sp_s1 g 0 1 n))), (0, .inr (.inr (0, 0, 0))), (1, .inl (nI n))], [.inl (nI 1), .inl (nI 1)], h4)) (P := True) rfl trivial ?_
              refine jt_nicgt jm_m110 11 (a := 1) (b := 1) (by omega) (by omega) (tgt := 106) (nxt := 19) rfl rfl rfl (fun c16 => ?_) (fun c16 => ?_)
              · exact absurd c16 (by decide)
              · refine jt_go jm_m110 12 2 (f' := (21, [(3, .inl (nI 0)), (2, .inl (nI 1)), (6, .inl (nI 0)), (5, .inl (nI 1)), (4, .inl (nI (sp_s1 g 0 1 n))), (0, .inr (.inr (0, 0, 0))), (1, .inl (nI n))], [], h4)) (P := True) rfl trivial ?_
                refine jt_pick (L' := [(0, .inr (.inr (0, 0, 0))), (1, .inl (nI n)), (2, .inl (nI 1)), (3, .inl (nI 0))]) [5, 6, 1, 0] rfl ?_
                refine jt_mono (ca_two2 W hnn Zh4) (fun u h2 zz => ⟨zz.1.trans (jt_li (if_neg (by omega)).symm), jf_fr_tr Fh4 zz.2⟩)
            · exact absurd c23 (by decide)
          · exact absurd c84 (by decide)
      · refine jt_go jm_m110 45 2 (f' := (75, [(5, .inl (nI 1)), (4, .inl (nI (sp_s1 g 0 1 n))), (0, .inr (.inr (0, 0, 0))), (1, .inl (nI n)), (2, .inl (nI 0)), (3, .inl (nI 1))], [.inl (nI 1)], h4)) (P := True) rfl trivial ?_
        refine jt_go jm_m110 48 2 (f' := (79, [(6, .inl (nI 1)), (5, .inl (nI 1)), (4, .inl (nI (sp_s1 g 0 1 n))), (0, .inr (.inr (0, 0, 0))), (1, .inl (nI n)), (2, .inl (nI 0)), (3, .inl (nI 1))], [.inl (nI 1)], h4)) (P := True) rfl trivial ?_
        refine jt_nifeq jm_m110 50 (by omega) (tgt := 94) (nxt := 82) rfl rfl rfl (fun c79 => ?_) (fun c79 => ?_)
        · exact absurd c79 (by decide)
        · refine jt_go jm_m110 51 1 (f' := (84, [(6, .inl (nI 1)), (5, .inl (nI 1)), (4, .inl (nI (sp_s1 g 0 1 n))), (0, .inr (.inr (0, 0, 0))), (1, .inl (nI n)), (2, .inl (nI 0)), (3, .inl (nI 1))], [.inl (nI 1)], h4)) (P := True) rfl trivial ?_
          refine jt_nifeq jm_m110 52 (by omega) (tgt := 94) (nxt := 87) rfl rfl rfl (fun c84 => ?_) (fun c84 => ?_)
          · exact absurd c84 (by decide)
          · refine jt_go jm_m110 53 3 (f' := (91, [(6, .inl (nI 1)), (5, .inl (nI 1)), (4, .inl (nI (sp_s1 g 0 1 n))), (0, .inr (.inr (0, 0, 0))), (1, .inl (nI n)), (2, .inl (nI 0)), (3, .inl (nI 1))], [.inl ((nI 10) * (nI 0))], h4)) (P := True) rfl trivial ?_
            refine jt_ti (show ((nI 10) * (nI 0)) = nI 0 from rfl) ?_
            refine jt_go jm_m110 56 2 (f' := (93, [(6, .inl (nI 1)), (5, .inl (nI 1)), (4, .inl (nI (sp_s1 g 0 1 n))), (0, .inr (.inr (0, 0, 0))), (1, .inl (nI n)), (2, .inl (nI 0)), (3, .inl (nI 1))], [.inl ((nI 0) + (nI 1))], h4)) (P := True) rfl trivial ?_
            refine jt_ti (show ((nI 0) + (nI 1)) = nI 1 from rfl) ?_
            refine jt_iret jm_m110 58 rfl ?_
            exact ⟨jt_li (if_pos (by omega)).symm, Fh4⟩
set_option maxHeartbeats 4000000 in
set_option maxRecDepth 20000 in
theorem cb_two1 {h : jm_M} {g : Nat → Nat} (W : jw g) {n : Nat} (hnn : n ≤ 24) (R : jg_rel h 0 g) : jt_T 214 (14, [(0, .inr (.inr (4, 0, 0))), (1, .inl (nI n)), (2, .inl (nI 1))], [], h) (fun u h' => u = some (.inl (if (sp_s1 g 0 1 n ≤ sp_s1 g 1 1 n ∧ sp_s1 g 0 0 n ≤ sp_s1 g 0 1 n) then nI 1 else (if (sp_s1 g 1 0 n ≤ sp_s1 g 0 0 n ∧ sp_s1 g 1 1 n ≤ sp_s1 g 1 0 n) then nI 10 else (if (sp_s1 g 1 1 n ≤ sp_s1 g 0 1 n ∧ sp_s1 g 1 0 n ≤ sp_s1 g 1 1 n) then nI 11 else (-4))))) ∧ jg_fr 1 h h') := by
  have bn := jw_n W
  have bm := jw_m W
  have bt := jw_t W
  refine jt_go jm_m214 9 2 (f' := (16, [(0, .inr (.inr (4, 0, 0))), (1, .inl (nI n)), (2, .inl (nI 1))], [.inl (nI 4), .inl (nI 1)], h)) (P := True) rfl trivial ?_
  refine jt_nicge jm_m214 11 (a := 1) (b := 4) (by omega) (by omega) (tgt := 88) (nxt := 19) rfl rfl rfl (fun c16 => ?_) (fun c16 => ?_)
  · exact absurd c16 (by decide)
  · refine jt_go jm_m214 12 3 (f' := (22, [(0, .inr (.inr (4, 0, 0))), (1, .inl (nI n)), (2, .inl (nI 1))], [.inl ((nI 1) / (nI 2))], h)) (P := ¬ (nI 2) = 0 ∧ True) rfl ⟨(by decide), trivial⟩ ?_
    refine jt_ti (show ((nI 1) / (nI 2)) = nI 0 from (by decide)) ?_
    refine jt_go jm_m214 15 4 (f' := (26, [(3, .inl (nI 0)), (0, .inr (.inr (4, 0, 0))), (1, .inl (nI n)), (2, .inl (nI 1))], [.inl ((nI 1) - (nI 1) / (nI 2) * (nI 2))], h)) (P := ¬ (nI 2) = 0 ∧ True) rfl ⟨(by decide), trivial⟩ ?_
    refine jt_ti (show ((nI 1) - (nI 1) / (nI 2) * (nI 2)) = nI 1 from (by decide)) ?_
    refine jt_go jm_m214 19 6 (f' := (33, [(4, .inl (nI 1)), (3, .inl (nI 0)), (0, .inr (.inr (4, 0, 0))), (1, .inl (nI n)), (2, .inl (nI 1))], [.inl ((nI 1) - (nI 0)), .inl (nI 0), .inr (.inr (4, 0, 0))], h)) (P := True) rfl trivial ?_
    refine jt_ti (show ((nI 1) - (nI 0)) = nI 1 from rfl) ?_
    refine jt_go jm_m214 25 2 (f' := (36, [(4, .inl (nI 1)), (3, .inl (nI 0)), (0, .inr (.inr (4, 0, 0))), (1, .inl (nI n)), (2, .inl (nI 1))], [.inl (nI n), .inl (nI 1), .inl (nI 1), .inl (nI 0), .inr (.inr (4, 0, 0))], h)) (P := True) rfl trivial ?_
    refine jt_call jm_m214 27 (mi' := 213) (as := [.inr (.inr (4, 0, 0)), .inl (nI 0), .inl (nI 1), .inl (nI 1), .inl (nI n)]) (rest := []) (nxt := 39) rfl rfl jm_m213 rfl rfl (cb_has0 R W (by omega) (by omega) (by omega)) ?_
    rintro u h1 ⟨rfl, Fh1⟩
    show jt_T 214 (39, [(4, .inl (nI 1)), (3, .inl (nI 0)), (0, .inr (.inr (4, 0, 0))), (1, .inl (nI n)), (2, .inl (nI 1))], [.inl (nI (g 0 - sp_s1 g 1 1 n))], h1) _
    have Zh1 := jg_mov0 R Fh1
    have bq1 := sp_s1_le (g := g) 1 1 n
    refine jt_go jm_m214 28 5 (f' := (45, [(4, .inl (nI 1)), (3, .inl (nI 0)), (0, .inr (.inr (4, 0, 0))), (1, .inl (nI n)), (2, .inl (nI 1))], [.inl (nI n), .inl (nI 1), .inl (nI 0), .inl (nI 0), .inr (.inr (4, 0, 0)), .inl (nI (g 0 - sp_s1 g 1 1 n))], h1)) (P := True) rfl trivial ?_
    refine jt_call jm_m214 33 (mi' := 213) (as := [.inr (.inr (4, 0, 0)), .inl (nI 0), .inl (nI 0), .inl (nI 1), .inl (nI n)]) (rest := [.inl (nI (g 0 - sp_s1 g 1 1 n))]) (nxt := 48) rfl rfl jm_m213 rfl rfl (cb_has0 Zh1 W (by omega) (by omega) (by omega)) ?_
    rintro u h2 ⟨rfl, Fh2⟩
    show jt_T 214 (48, [(4, .inl (nI 1)), (3, .inl (nI 0)), (0, .inr (.inr (4, 0, 0))), (1, .inl (nI n)), (2, .inl (nI 1))], [.inl (nI (g 0 - sp_s1 g 0 1 n)), .inl (nI (g 0 - sp_s1 g 1 1 n))], h2) _
    have Zh2 := jg_mov0 Zh1 Fh2
    have Fh2 := jg_fr_tr Fh1 Fh2
    have bq2 := sp_s1_le (g := g) 0 1 n
    refine jt_nicgt jm_m214 34 (a := g 0 - sp_s1 g 1 1 n) (b := g 0 - sp_s1 g 0 1 n) (by omega) (by omega) (tgt := 82) (nxt := 51) rfl rfl rfl (fun c48 => ?_) (fun c48 => ?_)
    · refine jt_inc jm_m214 56 (c := 1) (L' := [(2, .inl (nI 2)), (4, .inl (nI 1)), (3, .inl (nI 0)), (0, .inr (.inr (4, 0, 0))), (1, .inl (nI n))]) rfl rfl rfl rfl ?_
      refine jt_go jm_m214 57 1 (f' := (14, [(2, .inl (nI 2)), (4, .inl (nI 1)), (3, .inl (nI 0)), (0, .inr (.inr (4, 0, 0))), (1, .inl (nI n))], [], h2)) (P := True) rfl trivial ?_
      refine jt_pick (L' := [(0, .inr (.inr (4, 0, 0))), (1, .inl (nI n)), (2, .inl (nI 2))]) [3, 4, 0] rfl ?_
      refine jt_mono (cb_two2 W hnn Zh2) (fun u h2 zz => ⟨zz.1.trans (jt_li (if_neg (by omega)).symm), jg_fr_tr Fh2 zz.2⟩)
    · refine jt_go jm_m214 35 6 (f' := (58, [(4, .inl (nI 1)), (3, .inl (nI 0)), (0, .inr (.inr (4, 0, 0))), (1, .inl (nI n)), (2, .inl (nI 1))], [.inl ((nI 1) - (nI 1)), .inl (nI 0), .inl (nI 1), .inr (.inr (4, 0, 0))], h2)) (P := True) rfl trivial ?_
      refine jt_ti (show ((nI 1) - (nI 1)) = nI 0 from rfl) ?_
      refine jt_go jm_m214 41 1 (f' := (59, [(4, .inl (nI 1)), (3, .inl (nI 0)), (0, .inr (.inr (4, 0, 0))), (1, .inl (nI n)), (2, .inl (nI 1))], [.inl (nI n), .inl (nI 0), .inl (nI 0), .inl (nI 1), .inr (.inr (4, 0, 0))], h2)) (P := True) rfl trivial ?_
      refine jt_call jm_m214 42 (mi' := 213) (as := [.inr (.inr (4, 0, 0)), .inl (nI 1), .inl (nI 0), .inl (nI 0), .inl (nI n)]) (rest := []) (nxt := 62) rfl rfl jm_m213 rfl rfl (cb_has1 Zh2 W (by omega) (by omega) (by omega)) ?_
      rintro u h3 ⟨rfl, Fh3⟩
      show jt_T 214 (62, [(4, .inl (nI 1)), (3, .inl (nI 0)), (0, .inr (.inr (4, 0, 0))), (1, .inl (nI n)), (2, .inl (nI 1))], [.inl (nI (sp_s1 g 0 0 n))], h3) _
      have Zh3 := jg_mov0 Zh2 Fh3
      have Fh3 := jg_fr_tr Fh2 Fh3
      have bq3 := sp_s1_le (g := g) 0 0 n
      refine jt_go jm_m214 43 5 (f' := (68, [(4, .inl (nI 1)), (3, .inl (nI 0)), (0, .inr (.inr (4, 0, 0))), (1, .inl (nI n)), (2, .inl (nI 1))], [.inl (nI n), .inl (nI 1), .inl (nI 0), .inl (nI 1), .inr (.inr (4, 0, 0)), .inl (nI (sp_s1 g 0 0 n))], h3)) (P := True) rfl trivial ?_
      refine jt_call jm_m214 48 (mi' := 213) (as := [.inr (.inr (4, 0, 0)), .inl (nI 1), .inl (nI 0), .inl (nI 1), .inl (nI n)]) (rest := [.inl (nI (sp_s1 g 0 0 n))]) (nxt := 71) rfl rfl jm_m213 rfl rfl (cb_has1 Zh3 W (by omega) (by omega) (by omega)) ?_
      rintro u h4 ⟨rfl, Fh4⟩
      show jt_T 214 (71, [(4, .inl (nI 1)), (3, .inl (nI 0)), (0, .inr (.inr (4, 0, 0))), (1, .inl (nI n)), (2, .inl (nI 1))], [.inl (nI (sp_s1 g 0 1 n)), .inl (nI (sp_s1 g 0 0 n))], h4) _
      have Zh4 := jg_mov0 Zh3 Fh4
      have Fh4 := jg_fr_tr Fh3 Fh4
      have bq4 := sp_s1_le (g := g) 0 1 n
      refine jt_nicgt jm_m214 49 (a := sp_s1 g 0 0 n) (b := sp_s1 g 0 1 n) (by omega) (by omega) (tgt := 82) (nxt := 74) rfl rfl rfl (fun c71 => ?_) (fun c71 => ?_)
      · refine jt_inc jm_m214 56 (c := 1) (L' := [(2, .inl (nI 2)), (4, .inl (nI 1)), (3, .inl (nI 0)), (0, .inr (.inr (4, 0, 0))), (1, .inl (nI n))]) rfl rfl rfl rfl ?_
        refine jt_go jm_m214 57 1 (f' := (14, [(2, .inl (nI 2)), (4, .inl (nI 1)), (3, .inl (nI 0)), (0, .inr (.inr (4, 0, 0))), (1, .inl (nI n))], [], h4)) (P := True) rfl trivial ?_
        refine jt_pick (L' := [(0, .inr (.inr (4, 0, 0))), (1, .inl (nI n)), (2, .inl (nI 2))]) [3, 4, 0] rfl ?_
        refine jt_mono (cb_two2 W hnn Zh4) (fun u h2 zz => ⟨zz.1.trans (jt_li (if_neg (by omega)).symm), jg_fr_tr Fh4 zz.2⟩)
      · refine jt_go jm_m214 50 3 (f' := (78, [(4, .inl (nI 1)), (3, .inl (nI 0)), (0, .inr (.inr (4, 0, 0))), (1, .inl (nI n)), (2, .inl (nI 1))], [.inl ((nI 10) * (nI 0))], h4)) (P := True) rfl trivial ?_
        refine jt_ti (show ((nI 10) * (nI 0)) = nI 0 from rfl) ?_
        refine jt_go jm_m214 53 2 (f' := (81, [(4, .inl (nI 1)), (3, .inl (nI 0)), (0, .inr (.inr (4, 0, 0))), (1, .inl (nI n)), (2, .inl (nI 1))], [.inl ((nI 0) + (nI 1))], h4)) (P := True) rfl trivial ?_
        refine jt_ti (show ((nI 0) + (nI 1)) = nI 1 from rfl) ?_
        refine jt_iret jm_m214 55 rfl ?_
        exact ⟨jt_li (if_pos (by omega)).symm, Fh4⟩
set_option maxHeartbeats 4000000 in
set_option maxRecDepth 20000 in
theorem ca_two0 {h : jm_M} {g : Nat → Nat} (W : jw g) {n : Nat} (hnn : n ≤ 24) (R : jf_rel h 0 g) : jt_T 110 (21, [(0, .inr (.inr (0, 0, 0))), (1, .inl (nI n)), (2, .inl (nI 0)), (3, .inl (nI 0))], [], h) (fun u h' => u = some (.inl (if (sp_s1 g 0 0 n ≤ sp_s1 g 1 0 n ∧ sp_s1 g 0 1 n ≤ sp_s1 g 0 0 n) then nI 0 else (if (sp_s1 g 0 1 n ≤ sp_s1 g 1 1 n ∧ sp_s1 g 0 0 n ≤ sp_s1 g 0 1 n) then nI 1 else (if (sp_s1 g 1 0 n ≤ sp_s1 g 0 0 n ∧ sp_s1 g 1 1 n ≤ sp_s1 g 1 0 n) then nI 10 else (if (sp_s1 g 1 1 n ≤ sp_s1 g 0 1 n ∧ sp_s1 g 1 0 n ≤ sp_s1 g 1 1 n) then nI 11 else (-4)))))) ∧ jf_fr 1 h h') := by
  have bn := jw_n W
  have bm := jw_m W
  have bt := jw_t W
  refine jt_go jm_m110 14 2 (f' := (23, [(0, .inr (.inr (0, 0, 0))), (1, .inl (nI n)), (2, .inl (nI 0)), (3, .inl (nI 0))], [.inl (nI 1), .inl (nI 0)], h)) (P := True) rfl trivial ?_
  refine jt_nicgt jm_m110 16 (a := 0) (b := 1) (by omega) (by omega) (tgt := 100) (nxt := 26) rfl rfl rfl (fun c23 => ?_) (fun c23 => ?_)
  · exact absurd c23 (by decide)
  · refine jt_go jm_m110 17 4 (f' := (30, [(0, .inr (.inr (0, 0, 0))), (1, .inl (nI n)), (2, .inl (nI 0)), (3, .inl (nI 0))], [.inl (nI n), .inl (nI 0), .inl (nI 0), .inr (.inr (0, 0, 0))], h)) (P := True) rfl trivial ?_
    refine jt_call jm_m110 21 (mi' := 111) (as := [.inr (.inr (0, 0, 0)), .inl (nI 0), .inl (nI 0), .inl (nI n)]) (rest := []) (nxt := 33) rfl rfl jm_m111 rfl rfl (ca_s1 R W (by omega) (by omega) (by omega)) ?_
    rintro u h1 ⟨rfl, Fh1⟩
    show jt_T 110 (33, [(0, .inr (.inr (0, 0, 0))), (1, .inl (nI n)), (2, .inl (nI 0)), (3, .inl (nI 0))], [.inl (nI (sp_s1 g 0 0 n))], h1) _
    have Zh1 := jf_mov0 R Fh1
    have bq1 := sp_s1_le (g := g) 0 0 n
    refine jt_go jm_m110 22 5 (f' := (39, [(4, .inl (nI (sp_s1 g 0 0 n))), (0, .inr (.inr (0, 0, 0))), (1, .inl (nI n)), (2, .inl (nI 0)), (3, .inl (nI 0))], [.inl ((nI 1) - (nI 0)), .inr (.inr (0, 0, 0))], h1)) (P := True) rfl trivial ?_
    refine jt_ti (show ((nI 1) - (nI 0)) = nI 1 from rfl) ?_
    refine jt_go jm_m110 27 2 (f' := (41, [(4, .inl (nI (sp_s1 g 0 0 n))), (0, .inr (.inr (0, 0, 0))), (1, .inl (nI n)), (2, .inl (nI 0)), (3, .inl (nI 0))], [.inl (nI n), .inl (nI 0), .inl (nI 1), .inr (.inr (0, 0, 0))], h1)) (P := True) rfl trivial ?_
    refine jt_call jm_m110 29 (mi' := 111) (as := [.inr (.inr (0, 0, 0)), .inl (nI 1), .inl (nI 0), .inl (nI n)]) (rest := []) (nxt := 44) rfl rfl jm_m111 rfl rfl (ca_s1 Zh1 W (by omega) (by omega) (by omega)) ?_
    rintro u h2 ⟨rfl, Fh2⟩
    show jt_T 110 (44, [(4, .inl (nI (sp_s1 g 0 0 n))), (0, .inr (.inr (0, 0, 0))), (1, .inl (nI n)), (2, .inl (nI 0)), (3, .inl (nI 0))], [.inl (nI (sp_s1 g 1 0 n))], h2) _
    have Zh2 := jf_mov0 Zh1 Fh2
    have Fh2 := jf_fr_tr Fh1 Fh2
    have bq2 := sp_s1_le (g := g) 1 0 n
    refine jt_go jm_m110 30 1 (f' := (46, [(4, .inl (nI (sp_s1 g 0 0 n))), (0, .inr (.inr (0, 0, 0))), (1, .inl (nI n)), (2, .inl (nI 0)), (3, .inl (nI 0))], [.inl (nI (sp_s1 g 0 0 n)), .inl (nI (sp_s1 g 1 0 n))], h2)) (P := True) rfl trivial ?_
    refine jt_niclt jm_m110 31 (a := sp_s1 g 1 0 n) (b := sp_s1 g 0 0 n) (by omega) (by omega) (tgt := 53) (nxt := 49) rfl rfl rfl (fun c46 => ?_) (fun c46 => ?_)
    · refine jt_go jm_m110 34 7 (f' := (61, [(5, .inl (nI 0)), (4, .inl (nI (sp_s1 g 0 0 n))), (0, .inr (.inr (0, 0, 0))), (1, .inl (nI n)), (2, .inl (nI 0)), (3, .inl (nI 0))], [.inl ((nI 1) - (nI 0)), .inl (nI 0), .inr (.inr (0, 0, 0))], h2)) (P := True) rfl trivial ?_
      refine jt_ti (show ((nI 1) - (nI 0)) = nI 1 from rfl) ?_
      refine jt_go jm_m110 41 1 (f' := (62, [(5, .inl (nI 0)), (4, .inl (nI (sp_s1 g 0 0 n))), (0, .inr (.inr (0, 0, 0))), (1, .inl (nI n)), (2, .inl (nI 0)), (3, .inl (nI 0))], [.inl (nI n), .inl (nI 1), .inl (nI 0), .inr (.inr (0, 0, 0))], h2)) (P := True) rfl trivial ?_
      refine jt_call jm_m110 42 (mi' := 111) (as := [.inr (.inr (0, 0, 0)), .inl (nI 0), .inl (nI 1), .inl (nI n)]) (rest := []) (nxt := 65) rfl rfl jm_m111 rfl rfl (ca_s1 Zh2 W (by omega) (by omega) (by omega)) ?_
      rintro u h3 ⟨rfl, Fh3⟩
      show jt_T 110 (65, [(5, .inl (nI 0)), (4, .inl (nI (sp_s1 g 0 0 n))), (0, .inr (.inr (0, 0, 0))), (1, .inl (nI n)), (2, .inl (nI 0)), (3, .inl (nI 0))], [.inl (nI (sp_s1 g 0 1 n))], h3) _
      have Zh3 := jf_mov0 Zh2 Fh3
      have Fh3 := jf_fr_tr Fh2 Fh3
      have bq3 := sp_s1_le (g := g) 0 1 n
      refine jt_go jm_m110 43 1 (f' := (67, [(5, .inl (nI 0)), (4, .inl (nI (sp_s1 g 0 0 n))), (0, .inr (.inr (0, 0, 0))), (1, .inl (nI n)), (2, .inl (nI 0)), (3, .inl (nI 0))], [.inl (nI (sp_s1 g 0 0 n)), .inl (nI (sp_s1 g 0 1 n))], h3)) (P := True) rfl trivial ?_
      refine jt_nicgt jm_m110 44 (a := sp_s1 g 0 1 n) (b := sp_s1 g 0 0 n) (by omega) (by omega) (tgt := 74) (nxt := 70) rfl rfl rfl (fun c67 => ?_) (fun c67 => ?_)
      · refine jt_go jm_m110 47 3 (f' := (79, [(6, .inl (nI 0)), (5, .inl (nI 0)), (4, .inl (nI (sp_s1 g 0 0 n))), (0, .inr (.inr (0, 0, 0))), (1, .inl (nI n)), (2, .inl (nI 0)), (3, .inl (nI 0))], [.inl (nI 0)], h3)) (P := True) rfl trivial ?_
        refine jt_nifeq jm_m110 50 (by omega) (tgt := 94) (nxt := 82) rfl rfl rfl (fun c79 => ?_) (fun c79 => ?_)
        · refine jt_inc jm_m110 59 (c := 0) (L' := [(3, .inl (nI 1)), (6, .inl (nI 0)), (5, .inl (nI 0)), (4, .inl (nI (sp_s1 g 0 0 n))), (0, .inr (.inr (0, 0, 0))), (1, .inl (nI n)), (2, .inl (nI 0))]) rfl rfl rfl rfl ?_
          refine jt_go jm_m110 60 1 (f' := (21, [(3, .inl (nI 1)), (6, .inl (nI 0)), (5, .inl (nI 0)), (4, .inl (nI (sp_s1 g 0 0 n))), (0, .inr (.inr (0, 0, 0))), (1, .inl (nI n)), (2, .inl (nI 0))], [], h3)) (P := True) rfl trivial ?_
          refine jt_pick (L' := [(0, .inr (.inr (0, 0, 0))), (1, .inl (nI n)), (2, .inl (nI 0)), (3, .inl (nI 1))]) [4, 5, 6, 0] rfl ?_
          refine jt_mono (ca_two1 W hnn Zh3) (fun u h2 zz => ⟨zz.1.trans (jt_li (if_neg (by omega)).symm), jf_fr_tr Fh3 zz.2⟩)
        · exact absurd c79 (by decide)
      · refine jt_go jm_m110 45 2 (f' := (75, [(5, .inl (nI 0)), (4, .inl (nI (sp_s1 g 0 0 n))), (0, .inr (.inr (0, 0, 0))), (1, .inl (nI n)), (2, .inl (nI 0)), (3, .inl (nI 0))], [.inl (nI 1)], h3)) (P := True) rfl trivial ?_
        refine jt_go jm_m110 48 2 (f' := (79, [(6, .inl (nI 1)), (5, .inl (nI 0)), (4, .inl (nI (sp_s1 g 0 0 n))), (0, .inr (.inr (0, 0, 0))), (1, .inl (nI n)), (2, .inl (nI 0)), (3, .inl (nI 0))], [.inl (nI 0)], h3)) (P := True) rfl trivial ?_
        refine jt_nifeq jm_m110 50 (by omega) (tgt := 94) (nxt := 82) rfl rfl rfl (fun c79 => ?_) (fun c79 => ?_)
        · refine jt_inc jm_m110 59 (c := 0) (L' := [(3, .inl (nI 1)), (6, .inl (nI 1)), (5, .inl (nI 0)), (4, .inl (nI (sp_s1 g 0 0 n))), (0, .inr (.inr (0, 0, 0))), (1, .inl (nI n)), (2, .inl (nI 0))]) rfl rfl rfl rfl ?_
          refine jt_go jm_m110 60 1 (f' := (21, [(3, .inl (nI 1)), (6, .inl (nI 1)), (5, .inl (nI 0)), (4, .inl (nI (sp_s1 g 0 0 n))), (0, .inr (.inr (0, 0, 0))), (1, .inl (nI n)), (2, .inl (nI 0))], [], h3)) (P := True) rfl trivial ?_
          refine jt_pick (L' := [(0, .inr (.inr (0, 0, 0))), (1, .inl (nI n)), (2, .inl (nI 0)), (3, .inl (nI 1))]) [4, 5, 6, 0] rfl ?_
          refine jt_mono (ca_two1 W hnn Zh3) (fun u h2 zz => ⟨zz.1.trans (jt_li (if_neg (by omega)).symm), jf_fr_tr Fh3 zz.2⟩)
        · exact absurd c79 (by decide)
    · refine jt_go jm_m110 32 2 (f' := (54, [(4, .inl (nI (sp_s1 g 0 0 n))), (0, .inr (.inr (0, 0, 0))), (1, .inl (nI n)), (2, .inl (nI 0)), (3, .inl (nI 0))], [.inl (nI 1)], h2)) (P := True) rfl trivial ?_
      refine jt_go jm_m110 35 6 (f' := (61, [(5, .inl (nI 1)), (4, .inl (nI (sp_s1 g 0 0 n))), (0, .inr (.inr (0, 0, 0))), (1, .inl (nI n)), (2, .inl (nI 0)), (3, .inl (nI 0))], [.inl ((nI 1) - (nI 0)), .inl (nI 0), .inr (.inr (0, 0, 0))], h2)) (P := True) rfl trivial ?_
      refine jt_ti (show ((nI 1) - (nI 0)) = nI 1 from rfl) ?_
      refine jt_go jm_m110 41 1 (f' := (62, [(5, .inl (nI 1)), (4, .inl (nI (sp_s1 g 0 0 n))), (0, .inr (.inr (0, 0, 0))), (1, .inl (nI n)), (2, .inl (nI 0)), (3, .inl (nI 0))], [.inl (nI n), .inl (nI 1), .inl (nI 0), .inr (.inr (0, 0, 0))], h2)) (P := True) rfl trivial ?_
      refine jt_call jm_m110 42 (mi' := 111) (as := [.inr (.inr (0, 0, 0)), .inl (nI 0), .inl (nI 1), .inl (nI n)]) (rest := []) (nxt := 65) rfl rfl jm_m111 rfl rfl (ca_s1 Zh2 W (by omega) (by omega) (by omega)) ?_
      rintro u h4 ⟨rfl, Fh4⟩
      show jt_T 110 (65, [(5, .inl (nI 1)), (4, .inl (nI (sp_s1 g 0 0 n))), (0, .inr (.inr (0, 0, 0))), (1, .inl (nI n)), (2, .inl (nI 0)), (3, .inl (nI 0))], [.inl (nI (sp_s1 g 0 1 n))], h4) _
      have Zh4 := jf_mov0 Zh2 Fh4
      have Fh4 := jf_fr_tr Fh2 Fh4
      have bq4 := sp_s1_le (g := g) 0 1 n
      refine jt_go jm_m110 43 1 (f' := (67, [(5, .inl (nI 1)), (4, .inl (nI (sp_s1 g 0 0 n))), (0, .inr (.inr (0, 0, 0))), (1, .inl (nI n)), (2, .inl (nI 0)), (3, .inl (nI 0))], [.inl (nI (sp_s1 g 0 0 n)), .inl (nI (sp_s1 g 0 1 n))], h4)) (P := True) rfl trivial ?_
      refine jt_nicgt jm_m110 44 (a := sp_s1 g 0 1 n) (b := sp_s1 g 0 0 n) (by omega) (by omega) (tgt := 74) (nxt := 70) rfl rfl rfl (fun c67 => ?_) (fun c67 => ?_)
      · refine jt_go jm_m110 47 3 (f' := (79, [(6, .inl (nI 0)), (5, .inl (nI 1)), (4, .inl (nI (sp_s1 g 0 0 n))), (0, .inr (.inr (0, 0, 0))), (1, .inl (nI n)), (2, .inl (nI 0)), (3, .inl (nI 0))], [.inl (nI 1)], h4)) (P := True) rfl trivial ?_
        refine jt_nifeq jm_m110 50 (by omega) (tgt := 94) (nxt := 82) rfl rfl rfl (fun c79 => ?_) (fun c79 => ?_)
        · exact absurd c79 (by decide)
        · refine jt_go jm_m110 51 1 (f' := (84, [(6, .inl (nI 0)), (5, .inl (nI 1)), (4, .inl (nI (sp_s1 g 0 0 n))), (0, .inr (.inr (0, 0, 0))), (1, .inl (nI n)), (2, .inl (nI 0)), (3, .inl (nI 0))], [.inl (nI 0)], h4)) (P := True) rfl trivial ?_
          refine jt_nifeq jm_m110 52 (by omega) (tgt := 94) (nxt := 87) rfl rfl rfl (fun c84 => ?_) (fun c84 => ?_)
          · refine jt_inc jm_m110 59 (c := 0) (L' := [(3, .inl (nI 1)), (6, .inl (nI 0)), (5, .inl (nI 1)), (4, .inl (nI (sp_s1 g 0 0 n))), (0, .inr (.inr (0, 0, 0))), (1, .inl (nI n)), (2, .inl (nI 0))]) rfl rfl rfl rfl ?_
            refine jt_go jm_m110 60 1 (f' := (21, [(3, .inl (nI 1)), (6, .inl (nI 0)), (5, .inl (nI 1)), (4, .inl (nI (sp_s1 g 0 0 n))), (0, .inr (.inr (0, 0, 0))), (1, .inl (nI n)), (2, .inl (nI 0))], [], h4)) (P := True) rfl trivial ?_
            refine jt_pick (L' := [(0, .inr (.inr (0, 0, 0))), (1, .inl (nI n)), (2, .inl (nI 0)), (3, .inl (nI 1))]) [4, 5, 6, 0] rfl ?_
            refine jt_mono (ca_two1 W hnn Zh4) (fun u h2 zz => ⟨zz.1.trans (jt_li (if_neg (by omega)).symm), jf_fr_tr Fh4 zz.2⟩)
          · exact absurd c84 (by decide)
      · refine jt_go jm_m110 45 2 (f' := (75, [(5, .inl (nI 1)), (4, .inl (nI (sp_s1 g 0 0 n))), (0, .inr (.inr (0, 0, 0))), (1, .inl (nI n)), (2, .inl (nI 0)), (3, .inl (nI 0))], [.inl (nI 1)], h4)) (P := True) rfl trivial ?_
        refine jt_go jm_m110 48 2 (f' := (79, [(6, .inl (nI 1)), (5, .inl (nI 1)), (4, .inl (nI (sp_s1 g 0 0 n))), (0, .inr (.inr (0, 0, 0))), (1, .inl (nI n)), (2, .inl (nI 0)), (3, .inl (nI 0))], [.inl (nI 1)], h4)) (P := True) rfl trivial ?_
        refine jt_nifeq jm_m110 50 (by omega) (tgt := 94) (nxt := 82) rfl rfl rfl (fun c79 => ?_) (fun c79 => ?_)
        · exact absurd c79 (by decide)
        · refine jt_go jm_m110 51 1 (f' := (84, [(6, .inl (nI 1)), (5, .inl (nI 1)), (4, .inl (nI (sp_s1 g 0 0 n))), (0, .inr (.inr (0, 0, 0))), (1, .inl (nI n)), (2, .inl (nI 0)), (3, .inl (nI 0))], [.inl (nI 1)], h4)) (P := True) rfl trivial ?_
          refine jt_nifeq jm_m110 52 (by omega) (tgt := 94) (nxt := 87) rfl rfl rfl (fun c84 => ?_) (fun c84 => ?_)
          · exact absurd c84 (by decide)
          · refine jt_go jm_m110 53 3 (f' := (91, [(6, .inl (nI 1)), (5, .inl (nI 1)), (4, .inl (nI (sp_s1 g 0 0 n))), (0, .inr (.inr (0, 0, 0))), (1, .inl (nI n)), (2, .inl (nI 0)), (3, .inl (nI 0))], [.inl ((nI 10) * (nI 0))], h4)) (P := True) rfl trivial ?_
            refine jt_ti (show ((nI 10) * (nI 0)) = nI 0 from rfl) ?_
            refine jt_go jm_m110 56 2 (f' := (93, [(6, .inl (nI 1)), (5, .inl (nI 1)), (4, .inl (nI (sp_s1 g 0 0 n))), (0, .inr (.inr (0, 0, 0))), (1, .inl (nI n)), (2, .inl (nI 0)), (3, .inl (nI 0))], [.inl ((nI 0) + (nI 0))], h4)) (P := True) rfl trivial ?_
            refine jt_ti (show ((nI 0) + (nI 0)) = nI 0 from rfl) ?_
            refine jt_iret jm_m110 58 rfl ?_
            exact ⟨jt_li (if_pos (by omega)).symm, Fh4⟩
set_option maxHeartbeats 4000000 in
set_option maxRecDepth 20000 in
theorem cb_two0 {h : jm_M} {g : Nat → Nat} (W : jw g) {n : Nat} (hnn : n ≤ 24) (R : jg_rel h 0 g) : jt_T 214 (14, [(0, .inr (.inr (4, 0, 0))), (1, .inl (nI n)), (2, .inl (nI 0))], [], h) (fun u h' => u = some (.inl (if (sp_s1 g 0 0 n ≤ sp_s1 g 1 0 n ∧ sp_s1 g 0 1 n ≤ sp_s1 g 0 0 n) then nI 0 else (if (sp_s1 g 0 1 n ≤ sp_s1 g 1 1 n ∧ sp_s1 g 0 0 n ≤ sp_s1 g 0 1 n) then nI 1 else (if (sp_s1 g 1 0 n ≤ sp_s1 g 0 0 n ∧ sp_s1 g 1 1 n ≤ sp_s1 g 1 0 n) then nI 10 else (if (sp_s1 g 1 1 n ≤ sp_s1 g 0 1 n ∧ sp_s1 g 1 0 n ≤ sp_s1 g 1 1 n) then nI 11 else (-4)))))) ∧ jg_fr 1 h h') := by
  have bn := jw_n W
  have bm := jw_m W
  have bt := jw_t W
  refine jt_go jm_m214 9 2 (f' := (16, [(0, .inr (.inr (4, 0, 0))), (1, .inl (nI n)), (2, .inl (nI 0))], [.inl (nI 4), .inl (nI 0)], h)) (P := True) rfl trivial ?_
  refine jt_nicge jm_m214 11 (a := 0) (b := 4) (by omega) (by omega) (tgt := 88) (nxt := 19) rfl rfl rfl (fun c16 => ?_) (fun c16 => ?_)
  · exact absurd c16 (by decide)
  · refine jt_go jm_m214 12 3 (f' := (22, [(0, .inr (.inr (4, 0, 0))), (1, .inl (nI n)), (2, .inl (nI 0))], [.inl ((nI 0) / (nI 2))], h)) (P := ¬ (nI 2) = 0 ∧ True) rfl ⟨(by decide), trivial⟩ ?_
    refine jt_ti (show ((nI 0) / (nI 2)) = nI 0 from (by decide)) ?_
    refine jt_go jm_m214 15 4 (f' := (26, [(3, .inl (nI 0)), (0, .inr (.inr (4, 0, 0))), (1, .inl (nI n)), (2, .inl (nI 0))], [.inl ((nI 0) - (nI 0) / (nI 2) * (nI 2))], h)) (P := ¬ (nI 2) = 0 ∧ True) rfl ⟨(by decide), trivial⟩ ?_
    refine jt_ti (show ((nI 0) - (nI 0) / (nI 2) * (nI 2)) = nI 0 from (by decide)) ?_
    refine jt_go jm_m214 19 6 (f' := (33, [(4, .inl (nI 0)), (3, .inl (nI 0)), (0, .inr (.inr (4, 0, 0))), (1, .inl (nI n)), (2, .inl (nI 0))], [.inl ((nI 1) - (nI 0)), .inl (nI 0), .inr (.inr (4, 0, 0))], h)) (P := True) rfl trivial ?_
    refine jt_ti (show ((nI 1) - (nI 0)) = nI 1 from rfl) ?_
    refine jt_go jm_m214 25 2 (f' := (36, [(4, .inl (nI 0)), (3, .inl (nI 0)), (0, .inr (.inr (4, 0, 0))), (1, .inl (nI n)), (2, .inl (nI 0))], [.inl (nI n), .inl (nI 0), .inl (nI 1), .inl (nI 0), .inr (.inr (4, 0, 0))], h)) (P := True) rfl trivial ?_
    refine jt_call jm_m214 27 (mi' := 213) (as := [.inr (.inr (4, 0, 0)), .inl (nI 0), .inl (nI 1), .inl (nI 0), .inl (nI n)]) (rest := []) (nxt := 39) rfl rfl jm_m213 rfl rfl (cb_has0 R W (by omega) (by omega) (by omega)) ?_
    rintro u h1 ⟨rfl, Fh1⟩
    show jt_T 214 (39, [(4, .inl (nI 0)), (3, .inl (nI 0)), (0, .inr (.inr (4, 0, 0))), (1, .inl (nI n)), (2, .inl (nI 0))], [.inl (nI (g 0 - sp_s1 g 1 0 n))], h1) _
    have Zh1 := jg_mov0 R Fh1
    have bq1 := sp_s1_le (g := g) 1 0 n
    refine jt_go jm_m214 28 5 (f' := (45, [(4, .inl (nI 0)), (3, .inl (nI 0)), (0, .inr (.inr (4, 0, 0))), (1, .inl (nI n)), (2, .inl (nI 0))], [.inl (nI n), .inl (nI 0), .inl (nI 0), .inl (nI 0), .inr (.inr (4, 0, 0)), .inl (nI (g 0 - sp_s1 g 1 0 n))], h1)) (P := True) rfl trivial ?_
    refine jt_call jm_m214 33 (mi' := 213) (as := [.inr (.inr (4, 0, 0)), .inl (nI 0), .inl (nI 0), .inl (nI 0), .inl (nI n)]) (rest := [.inl (nI (g 0 - sp_s1 g 1 0 n))]) (nxt := 48) rfl rfl jm_m213 rfl rfl (cb_has0 Zh1 W (by omega) (by omega) (by omega)) ?_
    rintro u h2 ⟨rfl, Fh2⟩
    show jt_T 214 (48, [(4, .inl (nI 0)), (3, .inl (nI 0)), (0, .inr (.inr (4, 0, 0))), (1, .inl (nI n)), (2, .inl (nI 0))], [.inl (nI (g 0 - sp_s1 g 0 0 n)), .inl (nI (g 0 - sp_s1 g 1 0 n))], h2) _
    have Zh2 := jg_mov0 Zh1 Fh2
    have Fh2 := jg_fr_tr Fh1 Fh2
    have bq2 := sp_s1_le (g := g) 0 0 n
    refine jt_nicgt jm_m214 34 (a := g 0 - sp_s1 g 1 0 n) (b := g 0 - sp_s1 g 0 0 n) (by omega) (by omega) (tgt := 82) (nxt := 51) rfl rfl rfl (fun c48 => ?_) (fun c48 => ?_)
    · refine jt_inc jm_m214 56 (c := 0) (L' := [(2, .inl (nI 1)), (4, .inl (nI 0)), (3, .inl (nI 0)), (0, .inr (.inr (4, 0, 0))), (1, .inl (nI n))]) rfl rfl rfl rfl ?_
      refine jt_go jm_m214 57 1 (f' := (14, [(2, .inl (nI 1)), (4, .inl (nI 0)), (3, .inl (nI 0)), (0, .inr (.inr (4, 0, 0))), (1, .inl (nI n))], [], h2)) (P := True) rfl trivial ?_
      refine jt_pick (L' := [(0, .inr (.inr (4, 0, 0))), (1, .inl (nI n)), (2, .inl (nI 1))]) [3, 4, 0] rfl ?_
      refine jt_mono (cb_two1 W hnn Zh2) (fun u h2 zz => ⟨zz.1.trans (jt_li (if_neg (by omega)).symm), jg_fr_tr Fh2 zz.2⟩)
    · refine jt_go jm_m214 35 6 (f' := (58, [(4, .inl (nI 0)), (3, .inl (nI 0)), (0, .inr (.inr (4, 0, 0))), (1, .inl (nI n)), (2, .inl (nI 0))], [.inl ((nI 1) - (nI 0)), .inl (nI 0), .inl (nI 1), .inr (.inr (4, 0, 0))], h2)) (P := True) rfl trivial ?_
      refine jt_ti (show ((nI 1) - (nI 0)) = nI 1 from rfl) ?_
      refine jt_go jm_m214 41 1 (f' := (59, [(4, .inl (nI 0)), (3, .inl (nI 0)), (0, .inr (.inr (4, 0, 0))), (1, .inl (nI n)), (2, .inl (nI 0))], [.inl (nI n), .inl (nI 1), .inl (nI 0), .inl (nI 1), .inr (.inr (4, 0, 0))], h2)) (P := True) rfl trivial ?_
      refine jt_call jm_m214 42 (mi' := 213) (as := [.inr (.inr (4, 0, 0)), .inl (nI 1), .inl (nI 0), .inl (nI 1), .inl (nI n)]) (rest := []) (nxt := 62) rfl rfl jm_m213 rfl rfl (cb_has1 Zh2 W (by omega) (by omega) (by omega)) ?_
      rintro u h3 ⟨rfl, Fh3⟩
      show jt_T 214 (62, [(4, .inl (nI 0)), (3, .inl (nI 0)), (0, .inr (.inr (4, 0, 0))), (1, .inl (nI n)), (2, .inl (nI 0))], [.inl (nI (sp_s1 g 0 1 n))], h3) _
      have Zh3 := jg_mov0 Zh2 Fh3
      have Fh3 := jg_fr_tr Fh2 Fh3
      have bq3 := sp_s1_le (g := g) 0 1 n
      refine jt_go jm_m214 43 5 (f' := (68, [(4, .inl (nI 0)), (3, .inl (nI 0)), (0, .inr (.inr (4, 0, 0))), (1, .inl (nI n)), (2, .inl (nI 0))], [.inl (nI n), .inl (nI 0), .inl (nI 0), .inl (nI 1), .inr (.inr (4, 0, 0)), .inl (nI (sp_s1 g 0 1 n))], h3)) (P := True) rfl trivial ?_
      refine jt_call jm_m214 48 (mi' := 213) (as := [.inr (.inr (4, 0, 0)), .inl (nI 1), .inl (nI 0), .inl (nI 0), .inl (nI n)]) (rest := [.inl (nI (sp_s1 g 0 1 n))]) (nxt := 71) rfl rfl jm_m213 rfl rfl (cb_has1 Zh3 W (by omega) (by omega) (by omega)) ?_
      rintro u h4 ⟨rfl, Fh4⟩
      show jt_T 214 (71, [(4, .inl (nI 0)), (3, .inl (nI 0)), (0, .inr (.inr (4, 0, 0))), (1, .inl (nI n)), (2, .inl (nI 0))], [.inl (nI (sp_s1 g 0 0 n)), .inl (nI (sp_s1 g 0 1 n))], h4) _
      have Zh4 := jg_mov0 Zh3 Fh4
      have Fh4 := jg_fr_tr Fh3 Fh4
      have bq4 := sp_s1_le (g := g) 0 0 n
      refine jt_nicgt jm_m214 49 (a := sp_s1 g 0 1 n) (b := sp_s1 g 0 0 n) (by omega) (by omega) (tgt := 82) (nxt := 74) rfl rfl rfl (fun c71 => ?_) (fun c71 => ?_)
      · refine jt_inc jm_m214 56 (c := 0) (L' := [(2, .inl (nI 1)), (4, .inl (nI 0)), (3, .inl (nI 0)), (0, .inr (.inr (4, 0, 0))), (1, .inl (nI n))]) rfl rfl rfl rfl ?_
        refine jt_go jm_m214 57 1 (f' := (14, [(2, .inl (nI 1)), (4, .inl (nI 0)), (3, .inl (nI 0)), (0, .inr (.inr (4, 0, 0))), (1, .inl (nI n))], [], h4)) (P := True) rfl trivial ?_
        refine jt_pick (L' := [(0, .inr (.inr (4, 0, 0))), (1, .inl (nI n)), (2, .inl (nI 1))]) [3, 4, 0] rfl ?_
        refine jt_mono (cb_two1 W hnn Zh4) (fun u h2 zz => ⟨zz.1.trans (jt_li (if_neg (by omega)).symm), jg_fr_tr Fh4 zz.2⟩)
      · refine jt_go jm_m214 50 3 (f' := (78, [(4, .inl (nI 0)), (3, .inl (nI 0)), (0, .inr (.inr (4, 0, 0))), (1, .inl (nI n)), (2, .inl (nI 0))], [.inl ((nI 10) * (nI 0))], h4)) (P := True) rfl trivial ?_
        refine jt_ti (show ((nI 10) * (nI 0)) = nI 0 from rfl) ?_
        refine jt_go jm_m214 53 2 (f' := (81, [(4, .inl (nI 0)), (3, .inl (nI 0)), (0, .inr (.inr (4, 0, 0))), (1, .inl (nI n)), (2, .inl (nI 0))], [.inl ((nI 0) + (nI 0))], h4)) (P := True) rfl trivial ?_
        refine jt_ti (show ((nI 0) + (nI 0)) = nI 0 from rfl) ?_
        refine jt_iret jm_m214 55 rfl ?_
        exact ⟨jt_li (if_pos (by omega)).symm, Fh4⟩
def zb_two (g : Nat → Nat) (n : Nat) : Int32 := (if (sp_s1 g 0 0 n ≤ sp_s1 g 1 0 n ∧ sp_s1 g 0 1 n ≤ sp_s1 g 0 0 n) then nI 0 else (if (sp_s1 g 0 1 n ≤ sp_s1 g 1 1 n ∧ sp_s1 g 0 0 n ≤ sp_s1 g 0 1 n) then nI 1 else (if (sp_s1 g 1 0 n ≤ sp_s1 g 0 0 n ∧ sp_s1 g 1 1 n ≤ sp_s1 g 1 0 n) then nI 10 else (if (sp_s1 g 1 1 n ≤ sp_s1 g 0 1 n ∧ sp_s1 g 1 0 n ≤ sp_s1 g 1 1 n) then nI 11 else (-4)))))
def za_two (g : Nat → Nat) (x : Int32) : Int32 := if nI 1 ≤ x ∧ x ≤ nI 24 then zb_two g x.toNatClampNeg else (-1)
set_option maxHeartbeats 4000000 in
set_option maxRecDepth 20000 in
theorem ca_two {h : jm_M} {g : Nat → Nat} (R : jf_rel h 0 g) (W : jw g) {x : Int32} : jt_T 110 (0, [(0, .inr (.inr (0, 0, 0))), (1, .inl (x))], [], h) (fun u h' => u = some (.inl (za_two g x)) ∧ jf_fr 1 h h') := by
  have bn := jw_n W
  have bm := jw_m W
  have bt := jw_t W
  refine jt_go jm_m110 0 3 (f' := (4, [(0, .inr (.inr (0, 0, 0))), (1, .inl (x))], [.inl (nI 24), .inl (nI 1), .inl (x)], h)) (P := True) rfl trivial ?_
  refine jt_callp (w := .inl (jm_b (nI 1 ≤ x ∧ x ≤ nI 24))) jm_m110 3 (mi' := 136) (as := [.inl (x), .inl (nI 1), .inl (nI 24)]) (rest := []) (nxt := 7) rfl rfl jm_m136 rfl rfl (ta_within) ?_
  refine jt_ifbne jm_m110 4 (tgt := 12) (nxt := 10) rfl rfl rfl (fun c7 => ?_) (fun c7 => ?_)
  · obtain ⟨n, gn, hbn, rfl⟩ := jx_win2 (by decide) (by decide) c7
    refine jt_go jm_m110 7 4 (f' := (16, [(2, .inl (nI 0)), (0, .inr (.inr (0, 0, 0))), (1, .inl (nI n))], [.inl (nI 1), .inl (nI 0)], h)) (P := True) rfl trivial ?_
    refine jt_nicgt jm_m110 11 (a := 0) (b := 1) (by omega) (by omega) (tgt := 106) (nxt := 19) rfl rfl rfl (fun c16 => ?_) (fun c16 => ?_)
    · exact absurd c16 (by decide)
    · refine jt_go jm_m110 12 2 (f' := (21, [(3, .inl (nI 0)), (2, .inl (nI 0)), (0, .inr (.inr (0, 0, 0))), (1, .inl (nI n))], [], h)) (P := True) rfl trivial ?_
      refine jt_pick (L' := [(0, .inr (.inr (0, 0, 0))), (1, .inl (nI n)), (2, .inl (nI 0)), (3, .inl (nI 0))]) [2, 3, 1, 0] rfl ?_
      refine jt_mono (ca_two0 W hbn R) (fun u h2 zz => ⟨zz.1.trans (jt_li ?_), zz.2⟩)
      unfold za_two
      refine Eq.trans ?_ (if_pos c7).symm
      rw [nI_clamp (n := n) (by omega)]
      first | done | rfl
  · refine jt_go jm_m110 5 1 (f' := (11, [(0, .inr (.inr (0, 0, 0))), (1, .inl (x))], [.inl ((-1))], h)) (P := True) rfl trivial ?_
    refine jt_iret jm_m110 6 rfl ?_
    exact ⟨jt_li (if_neg (fun z => c7 z)).symm, jf_fr_rf⟩
set_option maxHeartbeats 4000000 in
set_option maxRecDepth 20000 in
theorem cb_two {h : jm_M} {g : Nat → Nat} (R : jg_rel h 0 g) (W : jw g) {x : Int32} : jt_T 214 (0, [(0, .inr (.inr (4, 0, 0))), (1, .inl (x))], [], h) (fun u h' => u = some (.inl (za_two g x)) ∧ jg_fr 1 h h') := by
  have bn := jw_n W
  have bm := jw_m W
  have bt := jw_t W
  refine jt_go jm_m214 0 3 (f' := (4, [(0, .inr (.inr (4, 0, 0))), (1, .inl (x))], [.inl (nI 24), .inl (nI 1), .inl (x)], h)) (P := True) rfl trivial ?_
  refine jt_callp (w := .inl (jm_b (nI 1 ≤ x ∧ x ≤ nI 24))) jm_m214 3 (mi' := 143) (as := [.inl (x), .inl (nI 1), .inl (nI 24)]) (rest := []) (nxt := 7) rfl rfl jm_m143 rfl rfl (tb_isIn) ?_
  refine jt_ifbne jm_m214 4 (tgt := 12) (nxt := 10) rfl rfl rfl (fun c7 => ?_) (fun c7 => ?_)
  · obtain ⟨n, gn, hbn, rfl⟩ := jx_win2 (by decide) (by decide) c7
    refine jt_go jm_m214 7 2 (f' := (14, [(2, .inl (nI 0)), (0, .inr (.inr (4, 0, 0))), (1, .inl (nI n))], [], h)) (P := True) rfl trivial ?_
    refine jt_pick (L' := [(0, .inr (.inr (4, 0, 0))), (1, .inl (nI n)), (2, .inl (nI 0))]) [1, 2, 0] rfl ?_
    refine jt_mono (cb_two0 W hbn R) (fun u h2 zz => ⟨zz.1.trans (jt_li ?_), zz.2⟩)
    unfold za_two
    refine Eq.trans ?_ (if_pos c7).symm
    rw [nI_clamp (n := n) (by omega)]
    first | done | rfl
  · refine jt_go jm_m214 5 1 (f' := (11, [(0, .inr (.inr (4, 0, 0))), (1, .inl (x))], [.inl ((-1))], h)) (P := True) rfl trivial ?_
    refine jt_iret jm_m214 6 rfl ?_
    exact ⟨jt_li (if_neg (fun z => c7 z)).symm, jg_fr_rf⟩
