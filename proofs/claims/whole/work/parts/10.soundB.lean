/-! THE SMALL MACHINE over the real one: memory. -/
def jm_loc : Instr → Option Nat
  | .istore k | .astore k => some k
  | .istore_n k | .astore_n k => some (k : Nat)
  | .lstore k => some (k + 1)
  | .lstore_n k => some ((k : Nat) + 1)
  | .iinc k _ => some k
  | _ => none
set_option maxRecDepth 100000 in
theorem jm_loc_ok : (jm_is.zip jm_mt).all (fun q => q.1.all (fun z => match jm_loc z.2.1 with
  | some k => decide (k < q.2.2.2.1)
  | none => true)) = true := by decide +kernel
theorem jm_getf_spec {own idx : Nat} {f f' : jm_F} {cd : Option Prop} (h : jm_getf own idx f = some (cd, f')) : ∃ c st ci k pl fs v, f.2.2.1 = .inr (.inr c) :: st ∧ jm_lk jm_fl own idx = some (ci, k, pl) ∧ jm_sh c = some (.inl (ci, fs)) ∧ f' = (f.1 + 3, f.2.1, v :: st, f.2.2.2) ∧ ((∃ q, fs[k]? = some (some q) ∧ v = .inr (.inr q)) ∨ (fs[k]? = some none ∧ v = .inl (f.2.2.2 c k))) := by
  unfold jm_getf at h
  split at h
  · rename_i c st hst
    split at h
    · rename_i ci k pl ci2 fs h1 h2
      split at h
      · rename_i hci
        subst hci
        split at h
        · rename_i q hq; cases h; exact ⟨c, st, ci, k, pl, fs, _, hst, h1, h2, rfl, Or.inl ⟨q, hq, rfl⟩⟩
        · rename_i hq; cases h; exact ⟨c, st, ci, k, pl, fs, _, hst, h1, h2, rfl, Or.inr ⟨hq, rfl⟩⟩
        · cases h
      · cases h
    · cases h
  · cases h
theorem jm_putf_spec {own idx : Nat} {f f' : jm_F} {cd : Option Prop} (h : jm_putf own idx f = some (cd, f')) : ∃ v c st ci k pl fs, f.2.2.1 = .inl v :: .inr (.inr c) :: st ∧ jm_lk jm_fl own idx = some (ci, k, pl) ∧ jm_sh c = some (.inl (ci, fs)) ∧ fs[k]? = some none ∧ cd = (if jm_bo ci k = true then some (v = 0 ∨ v = 1) else none) ∧ f' = (f.1 + 3, f.2.1, st, jm_set f.2.2.2 c (upd (f.2.2.2 c) k v)) := by
  unfold jm_putf at h
  split at h
  · rename_i v c st hst
    split at h
    · rename_i ci k pl ci2 fs h1 h2
      split at h
      · rename_i hci
        subst hci
        split at h
        · rename_i hq; cases h; exact ⟨v, c, st, ci, k, pl, fs, hst, h1, h2, hq, rfl, rfl⟩
        · cases h
      · cases h
    · cases h
  · cases h
theorem jm_iald_spec {f f' : jm_F} {cd : Option Prop} (h : jm_iald f = some (cd, f')) : ∃ i c st n, f.2.2.1 = .inl i :: .inr (.inr c) :: st ∧ jm_sh c = some (.inr (.inl n)) ∧ cd = some (vp_in i n) ∧ f' = (f.1 + 1, f.2.1, .inl (f.2.2.2 c i.toNatClampNeg) :: st, f.2.2.2) := by
  unfold jm_iald at h
  split at h
  · rename_i i c st hst
    split at h
    · rename_i n hn; cases h; exact ⟨i, c, st, n, hst, hn, rfl, rfl⟩
    · cases h
  · cases h
theorem jm_iast_spec {f f' : jm_F} {cd : Option Prop} (h : jm_iast f = some (cd, f')) : ∃ v i c st n, f.2.2.1 = .inl v :: .inl i :: .inr (.inr c) :: st ∧ jm_sh c = some (.inr (.inl n)) ∧ cd = some (vp_in i n) ∧ f' = (f.1 + 1, f.2.1, st, jm_set f.2.2.2 c (upd (f.2.2.2 c) i.toNatClampNeg v)) := by
  unfold jm_iast at h
  split at h
  · rename_i v i c st hst
    split at h
    · rename_i n hn; cases h; exact ⟨v, i, c, st, n, hst, hn, rfl, rfl⟩
    · cases h
  · cases h
theorem jm_aald_spec {f f' : jm_F} {cd : Option Prop} (h : jm_aald f = some (cd, f')) : ∃ i c st t n g, f.2.2.1 = .inl i :: .inr (.inr c) :: st ∧ jm_sh c = some (.inr (.inr (t, n, g))) ∧ cd = some (vp_in i n) ∧ f' = (f.1 + 1, f.2.1, .inr (.inr (g i.toNatClampNeg)) :: st, f.2.2.2) := by
  unfold jm_aald at h
  split at h
  · rename_i i c st hst
    split at h
    · rename_i t n g hn; cases h; exact ⟨i, c, st, t, n, g, hst, hn, rfl, rfl⟩
    · cases h
  · cases h
theorem jm_alen_spec {f f' : jm_F} {cd : Option Prop} (h : jm_alen f = some (cd, f')) : ∃ c st n, f.2.2.1 = .inr (.inr c) :: st ∧ jm_sh c = some (.inr (.inl n)) ∧ f' = (f.1 + 1, f.2.1, .inl (Int32.ofNat n) :: st, f.2.2.2) := by
  unfold jm_alen at h
  split at h
  · rename_i c st hst
    split at h
    · rename_i n hn; cases h; exact ⟨c, st, n, hst, hn, rfl⟩
    · cases h
  · cases h
/-- what the checks of the shapes say -/
theorem jm_obj {c : jm_K} (hc : c ∈ jm_ks) {ci : Nat} {fs : List (Option jm_K)} (h : jm_sh c = some (.inl (ci, fs))) : ∃ q, jm_cl0[ci]? = some q ∧ q.2.2 = fs.length ∧ ∀ k, fs[k]? = some none → (q.2.1 k).2.2.2 = false ∧ parseFieldDescriptor (q.2.1 k).2.2.1 = some (if jm_bo ci k = true then FieldType.boolean else FieldType.int) := by
  have h1 := List.all_eq_true.mp jm_sho_ok c hc
  unfold jm_sho at h1
  rw [h] at h1
  dsimp only at h1
  split at h1
  · rename_i q hq
    simp only [Bool.and_eq_true, decide_eq_true_eq] at h1
    refine ⟨q, hq, h1.1, fun k hk => ?_⟩
    have h2 := List.all_eq_true.mp h1.2 k (List.mem_range.mpr (List.getElem?_eq_some_iff.mp hk).1)
    rw [hk] at h2
    simpa only [Bool.and_eq_true, decide_eq_true_eq] using h2
  · cases h1
theorem jm_row {c : jm_K} (hc : c ∈ jm_ks) {n : Nat} (h : jm_sh c = some (.inr (.inl n))) : n < 2147483648 := by
  have h1 := List.all_eq_true.mp jm_sho_ok c hc
  unfold jm_sho at h1
  rw [h] at h1
  exact of_decide_eq_true h1
theorem jm_rowr {c : jm_K} (hc : c ∈ jm_ks) {t n : Nat} {g : Nat → jm_K} (h : jm_sh c = some (.inr (.inr (t, n, g)))) : (t = 1 ∨ t = 2) ∧ ∀ i, i < n → g i ∈ jm_ks := by
  have h1 := List.all_eq_true.mp jm_sho_ok c hc
  unfold jm_sho at h1
  rw [h] at h1
  simp only [Bool.and_eq_true, Bool.or_eq_true, beq_iff_eq, decide_eq_true_eq] at h1
  refine ⟨h1.1, fun i hi => ?_⟩
  have h2 := List.all_eq_true.mp jm_clo_ok c hc
  unfold jm_clo at h2
  rw [h] at h2
  exact of_decide_eq_true (List.all_eq_true.mp h2 i (List.mem_range.mpr hi))
theorem jm_objr {c : jm_K} (hc : c ∈ jm_ks) {ci k : Nat} {fs : List (Option jm_K)} {q : jm_K} (h : jm_sh c = some (.inl (ci, fs))) (hk : fs[k]? = some (some q)) : q ∈ jm_ks := by
  have h2 := List.all_eq_true.mp jm_clo_ok c hc
  unfold jm_clo at h2
  rw [h] at h2
  exact of_decide_eq_true (List.all_eq_true.mp h2 (some q) (List.mem_of_getElem? hk))
section JMS
variable {p : Program} {l : Launch} {e : Env} {R : Room} {s : State} {m : MethodId} {args : Array Value} {below : List Frame} {meth : Method} {c : Code} {H : Heap} {locs : List Loc} {cells slots : Nat} {Q : State → Prop}
variable {D : va_G} {A : Nat → Prop} {ad : jm_K → Nat} {cs : Nat → ClassId} {H0 : Heap} {r : jm_MT} {ls : Array Slot} {nL own idx : Nat} {N : String} {cc : ByteArray} {f f' : jm_F} {cd : Option Prop}
theorem jm_getf_W (hx : p.tables.exec = Jvm.exec) (hb : c.code = cc) (hown : s.vm.findClass N = some m.cls) (hts : ∀ w ∈ jm_T, w.before args s = true) (hK : va_K D jm_cl0 (jm_ty cs) s) (hon : jm_on[own]? = some N) (hd : decode cc f.1 = .ok (.getfield idx, 3)) (hf : jm_Fr D A ad cs H0 nL f ls H locs) (hs : jm_getf own idx f = some (cd, f'))
    (kk : ∀ (ls' : Array Slot) (H' : Heap) (locs' : List Loc), jm_Fr D A ad cs H0 nL f' ls' H' locs' → W p l e R s m args below meth c H' locs' cells slots Q (F0 m f'.1 ls' (f'.2.2.1.map (jm_cv ad)))) :
    W p l e R s m args below meth c H locs cells slots Q (F0 m f.1 ls (f.2.2.1.map (jm_cv ad))) := by
  obtain ⟨k0, st, ci, k, pl, fs, v, h1, h2, h3, rfl, h4⟩ := jm_getf_spec hs
  obtain ⟨hl, hol, hos, hP, hD, hS⟩ := hf
  rw [h1] at hos ⊢
  have hk0 : k0 ∈ jm_ks := jm_oks_head hos
  obtain ⟨q0, hq0, hq1⟩ := jm_ws_get (ad := ad) (cs := cs) (h := f.2.2.2) hk0
  obtain ⟨q, hq, hlen, hty⟩ := jm_obj hk0 h3
  rw [h3] at hq1
  have hw := jm_lk_all (P := jm_flok) jm_fl_ok hon h2
  unfold jm_flok at hw
  rw [Bool.and_eq_true] at hw
  have hkl : k < q.2.2 := by
    have h9 := of_decide_eq_true hw.2
    dsimp only at h9
    rw [hq] at h9
    exact h9
  have hw1 := jm_at_T hw.1
  unfold jm_fT at hw1
  dsimp only at hw1
  rw [hq] at hw1
  dsimp only at hw1
  have hval : (jm_fs ad (f.2.2.2 k0) fs)[k]? = some (jm_cv ad v) := by
    rw [jm_fs_get ad _ fs (hlen ▸ hkl)]
    unfold jm_slot
    rcases h4 with ⟨z, hz, rfl⟩ | ⟨hz, rfl⟩ <;> rw [hz] <;> rfl
  refine va_get (cl := jm_cl0) (tys := jm_ty cs) (ws := jm_ws ad cs f.2.2.2) (C := q.1) (T := q.2.1) (N := q.2.2) hx hb hts (jm_uws hq) hown hK hP q0 hq1 hq k hkl (hts _ hw1) (fun x h => h) hval hd ?_
  refine kk ls H locs ⟨hl, hol, jm_oks_cons ?_ (jm_oks_tail hos), hP, hD, hS⟩
  rcases h4 with ⟨z, hz, rfl⟩ | ⟨hz, rfl⟩
  · exact jm_objr hk0 h3 hz
  · trivial
theorem jm_nmo : ∀ (ci : Nat) (q : vw_C), jm_cl0[ci]? = some q → ∀ a, a < q.2.2 → ∀ b, b < q.2.2 → a ≠ b → (q.2.1 a).2.1 ≠ (q.2.1 b).2.1 := by
  intro ci q h
  have h2 : ∀ q ∈ jm_cl0, ∀ a, a < q.2.2 → ∀ b, b < q.2.2 → a ≠ b → (q.2.1 a).2.1 ≠ (q.2.1 b).2.1 := by
    intro q hq
    simp only [jm_cl0, List.mem_cons, List.not_mem_nil, or_false] at hq
    rcases hq with rfl | rfl | rfl | rfl | rfl | rfl | rfl | rfl | rfl | rfl | rfl | rfl
    · exact nmX0
    · exact nmX1
    · exact nmX2
    · exact nmX3
    · exact nmX4
    · exact nmX5
    · exact nmX6
    · exact nmX7
    · exact nmX9
    · exact nmX10
    · exact nmX11
    · exact nmX12
  exact h2 q (List.mem_of_getElem? h)
theorem jm_tyo : ∀ (ci : Nat) (q : vw_C), jm_cl0[ci]? = some q → ∃ ty0 : Nat → FieldType, ∀ k, k < q.2.2 → parseFieldDescriptor (q.2.1 k).2.2.1 = some (ty0 k) := by
  intro ci q h
  have h2 : ∀ q ∈ jm_cl0, ∃ ty0 : Nat → FieldType, ∀ k, k < q.2.2 → parseFieldDescriptor (q.2.1 k).2.2.1 = some (ty0 k) := by
    intro q hq
    simp only [jm_cl0, List.mem_cons, List.not_mem_nil, or_false] at hq
    rcases hq with rfl | rfl | rfl | rfl | rfl | rfl | rfl | rfl | rfl | rfl | rfl | rfl
    · exact ⟨_, tyX0_ok⟩
    · exact ⟨_, tyX1_ok⟩
    · exact ⟨_, tyX2_ok⟩
    · exact ⟨_, tyX3_ok⟩
    · exact ⟨_, tyX4_ok⟩
    · exact ⟨_, tyX5_ok⟩
    · exact ⟨_, tyX6_ok⟩
    · exact ⟨_, tyX7_ok⟩
    · exact ⟨_, tyX9_ok⟩
    · exact ⟨_, tyX10_ok⟩
    · exact ⟨_, tyX11_ok⟩
    · exact ⟨_, tyX12_ok⟩
  exact h2 q (List.mem_of_getElem? h)
theorem jm_putf_W (hx : p.tables.exec = Jvm.exec) (hb : c.code = cc) (hown : s.vm.findClass N = some m.cls) (hts : ∀ w ∈ jm_T, w.before args s = true) (hK : va_K D jm_cl0 (jm_ty cs) s) (hon : jm_on[own]? = some N) (hd : decode cc f.1 = .ok (.putfield idx, 3)) (hf : jm_Fr D A ad cs H0 nL f ls H locs) (hs : jm_putf own idx f = some (cd, f')) (hc : jm_hold cd)
    (kk : ∀ (ls' : Array Slot) (H' : Heap) (locs' : List Loc), jm_Fr D A ad cs H0 nL f' ls' H' locs' → W p l e R s m args below meth c H' locs' cells slots Q (F0 m f'.1 ls' (f'.2.2.1.map (jm_cv ad)))) :
    W p l e R s m args below meth c H locs cells slots Q (F0 m f.1 ls (f.2.2.1.map (jm_cv ad))) := by
  obtain ⟨v, k0, st, ci, k, pl, fs, h1, h2, h3, h4, rfl, rfl⟩ := jm_putf_spec hs
  obtain ⟨hl, hol, hos, hP, hD, hS⟩ := hf
  rw [h1] at hos ⊢
  have hk0 : k0 ∈ jm_ks := jm_oks_head (jm_oks_tail hos)
  obtain ⟨q0, hq0, hq1⟩ := jm_ws_get (ad := ad) (cs := cs) (h := f.2.2.2) hk0
  obtain ⟨q, hq, hlen, hty⟩ := jm_obj hk0 h3
  have hset := jm_ws_set (ad := ad) (cs := cs) (h := f.2.2.2) hq0 (upd (f.2.2.2 k0) k v)
  rw [h3] at hq1 hset
  have hw := jm_lk_all (P := jm_flok) jm_fl_ok hon h2
  unfold jm_flok at hw
  rw [Bool.and_eq_true] at hw
  have hkl : k < q.2.2 := by
    have h9 := of_decide_eq_true hw.2
    dsimp only at h9
    rw [hq] at h9
    exact h9
  have hw1 := jm_at_T hw.1
  unfold jm_fT at hw1
  dsimp only at hw1
  rw [hq] at hw1
  dsimp only at hw1
  obtain ⟨ty0, hty0⟩ := jm_tyo ci q hq
  obtain ⟨hfin, hpd⟩ := hty k h4
  have hset2 : (jm_ws ad cs f.2.2.2).set q0 (ad k0, .inr (ci, (jm_fs ad (f.2.2.2 k0) fs).set k (.int v))) = jm_ws ad cs (jm_set f.2.2.2 k0 (upd (f.2.2.2 k0) k v)) := by
    rw [jm_fs_set ad _ fs v h4]; exact hset
  have hnar : narrow (if jm_bo ci k = true then FieldType.boolean else FieldType.int) (.int v) = .int v ∧ fits (if jm_bo ci k = true then FieldType.boolean else FieldType.int) (.int v) = true := by
    by_cases hbo : jm_bo ci k = true
    · rw [if_pos hbo] at hc ⊢
      rcases hc with rfl | rfl <;> exact ⟨by decide +kernel, by decide +kernel⟩
    · rw [if_neg hbo]
      exact ⟨rfl, rfl⟩
  refine va_put (cl := jm_cl0) (tys := jm_ty cs) (ws := jm_ws ad cs f.2.2.2) (C := q.1) (T := q.2.1) (N := q.2.2) hx hb hts (jm_uws hq) ty0 hty0 (jm_nmo ci q hq) hown hK hP hD hS q0 hq1 hq k hkl (hts _ hw1) (fun x h => h) hfin hpd hnar.1 hnar.2 (by rw [jm_fs_len]; exact hlen ▸ hkl) hd (fun H1 locs1 hP1 hD1 hS1 => ?_)
  have hP1 : va_P D jm_cl0 ((jm_ws ad cs f.2.2.2).set q0 (ad k0, .inr (ci, (jm_fs ad (f.2.2.2 k0) fs).set k (.int v)))) H1 := hP1
  have hD1 : va_D A ((jm_ws ad cs f.2.2.2).set q0 (ad k0, .inr (ci, (jm_fs ad (f.2.2.2 k0) fs).set k (.int v)))) := hD1
  rw [hset2] at hP1 hD1
  exact kk ls H1 locs1 ⟨hl, hol, jm_oks_tail (jm_oks_tail hos), hP1, hD1, hS1⟩
theorem jm_iald_W (hx : p.tables.exec = Jvm.exec) (hb : c.code = cc) (hK : va_K D jm_cl0 (jm_ty cs) s) (hd : decode cc f.1 = .ok (.iaload, 1)) (hf : jm_Fr D A ad cs H0 nL f ls H locs) (hs : jm_iald f = some (cd, f')) (hc : jm_hold cd)
    (kk : ∀ (ls' : Array Slot) (H' : Heap) (locs' : List Loc), jm_Fr D A ad cs H0 nL f' ls' H' locs' → W p l e R s m args below meth c H' locs' cells slots Q (F0 m f'.1 ls' (f'.2.2.1.map (jm_cv ad)))) :
    W p l e R s m args below meth c H locs cells slots Q (F0 m f.1 ls (f.2.2.1.map (jm_cv ad))) := by
  obtain ⟨i, k0, st, n, h1, h3, rfl, rfl⟩ := jm_iald_spec hs
  obtain ⟨hl, hol, hos, hP, hD, hS⟩ := hf
  rw [h1] at hos ⊢
  have hk0 : k0 ∈ jm_ks := jm_oks_head (jm_oks_tail hos)
  obtain ⟨q0, hq0, hq1⟩ := jm_ws_get (ad := ad) (cs := cs) (h := f.2.2.2) hk0
  rw [h3] at hq1
  refine va_iald (cl := jm_cl0) (tys := jm_ty cs) (ws := jm_ws ad cs f.2.2.2) hx hb hK hP q0 0 hq1 rfl hc hd ?_
  exact kk ls H locs ⟨hl, hol, jm_oks_cons trivial (jm_oks_tail (jm_oks_tail hos)), hP, hD, hS⟩
theorem jm_iast_W (hx : p.tables.exec = Jvm.exec) (hb : c.code = cc) (hK : va_K D jm_cl0 (jm_ty cs) s) (hd : decode cc f.1 = .ok (.iastore, 1)) (hf : jm_Fr D A ad cs H0 nL f ls H locs) (hs : jm_iast f = some (cd, f')) (hc : jm_hold cd)
    (kk : ∀ (ls' : Array Slot) (H' : Heap) (locs' : List Loc), jm_Fr D A ad cs H0 nL f' ls' H' locs' → W p l e R s m args below meth c H' locs' cells slots Q (F0 m f'.1 ls' (f'.2.2.1.map (jm_cv ad)))) :
    W p l e R s m args below meth c H locs cells slots Q (F0 m f.1 ls (f.2.2.1.map (jm_cv ad))) := by
  obtain ⟨v, i, k0, st, n, h1, h3, rfl, rfl⟩ := jm_iast_spec hs
  obtain ⟨hl, hol, hos, hP, hD, hS⟩ := hf
  rw [h1] at hos ⊢
  have hk0 : k0 ∈ jm_ks := jm_oks_head (jm_oks_tail (jm_oks_tail hos))
  obtain ⟨q0, hq0, hq1⟩ := jm_ws_get (ad := ad) (cs := cs) (h := f.2.2.2) hk0
  have hset := jm_ws_set (ad := ad) (cs := cs) (h := f.2.2.2) hq0 (upd (f.2.2.2 k0) i.toNatClampNeg v)
  rw [h3] at hq1 hset
  refine va_iast (cl := jm_cl0) (tys := jm_ty cs) (ws := jm_ws ad cs f.2.2.2) hx hb hK hP hD hS q0 0 hq1 rfl hc hd (fun H1 locs1 hP1 hD1 hS1 => ?_)
  have hset2 : (jm_ws ad cs f.2.2.2).set q0 (ad k0, .inl (cs 0, n, .inl (upd (f.2.2.2 k0) i.toNatClampNeg v))) = jm_ws ad cs (jm_set f.2.2.2 k0 (upd (f.2.2.2 k0) i.toNatClampNeg v)) := hset
  rw [hset2] at hP1 hD1
  exact kk ls H1 locs1 ⟨hl, hol, jm_oks_tail (jm_oks_tail (jm_oks_tail hos)), hP1, hD1, hS1⟩
theorem jm_aald_W (hx : p.tables.exec = Jvm.exec) (hb : c.code = cc) (hK : va_K D jm_cl0 (jm_ty cs) s) (hd : decode cc f.1 = .ok (.aaload, 1)) (hf : jm_Fr D A ad cs H0 nL f ls H locs) (hs : jm_aald f = some (cd, f')) (hc : jm_hold cd)
    (kk : ∀ (ls' : Array Slot) (H' : Heap) (locs' : List Loc), jm_Fr D A ad cs H0 nL f' ls' H' locs' → W p l e R s m args below meth c H' locs' cells slots Q (F0 m f'.1 ls' (f'.2.2.1.map (jm_cv ad)))) :
    W p l e R s m args below meth c H locs cells slots Q (F0 m f.1 ls (f.2.2.1.map (jm_cv ad))) := by
  obtain ⟨i, k0, st, t, n, g, h1, h3, rfl, rfl⟩ := jm_aald_spec hs
  obtain ⟨hl, hol, hos, hP, hD, hS⟩ := hf
  rw [h1] at hos ⊢
  have hk0 : k0 ∈ jm_ks := jm_oks_head (jm_oks_tail hos)
  obtain ⟨q0, hq0, hq1⟩ := jm_ws_get (ad := ad) (cs := cs) (h := f.2.2.2) hk0
  obtain ⟨ht, hg⟩ := jm_rowr hk0 h3
  rw [h3] at hq1
  have hg2 : g i.toNatClampNeg ∈ jm_ks := hg _ (Nat.not_le.mp fun q => hc (Or.inr q))
  have k2 := kk ls H locs ⟨hl, hol, jm_oks_cons (v := .inr (.inr (g i.toNatClampNeg))) hg2 (jm_oks_tail (jm_oks_tail hos)), hP, hD, hS⟩
  rcases ht with rfl | rfl
  · exact va_aldq (cl := jm_cl0) (tys := jm_ty cs) (ws := jm_ws ad cs f.2.2.2) hx hb hK hP q0 1 hq1 rfl hc hd k2
  · exact va_aldq (cl := jm_cl0) (tys := jm_ty cs) (ws := jm_ws ad cs f.2.2.2) hx hb hK hP q0 2 hq1 rfl hc hd k2
theorem jm_alen_W (hx : p.tables.exec = Jvm.exec) (hb : c.code = cc) (hK : va_K D jm_cl0 (jm_ty cs) s) (hd : decode cc f.1 = .ok (.arraylength, 1)) (hf : jm_Fr D A ad cs H0 nL f ls H locs) (hs : jm_alen f = some (cd, f'))
    (kk : ∀ (ls' : Array Slot) (H' : Heap) (locs' : List Loc), jm_Fr D A ad cs H0 nL f' ls' H' locs' → W p l e R s m args below meth c H' locs' cells slots Q (F0 m f'.1 ls' (f'.2.2.1.map (jm_cv ad)))) :
    W p l e R s m args below meth c H locs cells slots Q (F0 m f.1 ls (f.2.2.1.map (jm_cv ad))) := by
  obtain ⟨k0, st, n, h1, h3, rfl⟩ := jm_alen_spec hs
  obtain ⟨hl, hol, hos, hP, hD, hS⟩ := hf
  rw [h1] at hos ⊢
  have hk0 : k0 ∈ jm_ks := jm_oks_head hos
  obtain ⟨q0, hq0, hq1⟩ := jm_ws_get (ad := ad) (cs := cs) (h := f.2.2.2) hk0
  rw [h3] at hq1
  refine va_alen (cl := jm_cl0) (tys := jm_ty cs) (ws := jm_ws ad cs f.2.2.2) hx hb hK hP q0 0 hq1 rfl rfl hd ?_
  exact kk ls H locs ⟨hl, hol, jm_oks_cons trivial (jm_oks_tail hos), hP, hD, hS⟩
theorem jm_wsum_cv (ad : jm_K → Nat) (st : List jm_V) : ((st.map (jm_cv ad)).map fun v => v.category).sum = jm_wsum st := by
  unfold jm_wsum
  rw [List.map_map]
  congr 2
  funext v
  exact jm_cv_cat ad v
theorem jm_lib_W (hx : p.tables.exec = Jvm.exec) (hb : c.code = cc) (hml : c.maxLocals = nL) (hown : s.vm.findClass N = some m.cls) (hts : ∀ w ∈ jm_T, w.before args s = true) (hK : va_K D jm_cl0 (jm_ty cs) s) (hon : jm_on[own]? = some N)
    (hlib : (jm_lk jm_acp own idx).isNone = true ∧ (jm_lk jm_mth own idx).isNone = true ∨ 1 ≤ R.frames ∧ 26 ≤ R.locals) (hd : decode cc f.1 = .ok (.invokestatic idx, 3)) (hf : jm_Fr D A ad cs H0 nL f ls H locs) (hs : jm_lib own idx f = some (cd, f')) (hc : jm_hold cd)
    (kk : ∀ (ls' : Array Slot) (H' : Heap) (locs' : List Loc), jm_Fr D A ad cs H0 nL f' ls' H' locs' → W p l e R s m args below meth c H' locs' 0 0 Q (F0 m f'.1 ls' (f'.2.2.1.map (jm_cv ad)))) :
    W p l e R s m args below meth c H locs 0 0 Q (F0 m f.1 ls (f.2.2.1.map (jm_cv ad))) := by
  obtain ⟨hl, hol, hos, hP, hD, hS⟩ := hf
  have hls : c.maxLocals = ls.size := hml.trans hl.1.symm
  have hsys := jm_sys_ok
  simp only [Bool.and_eq_true] at hsys
  unfold jm_lib at hs
  split at hs
  · rename_i pl n dp c1 sp c0 st hacp hst
    rw [hacp] at hlib
    obtain ⟨hfr, hlo⟩ : 1 ≤ R.frames ∧ 26 ≤ R.locals := hlib.resolve_left (fun q => by simp at q)
    rw [hst] at hos ⊢
    split at hs
    · rename_i n0 n1 hn0 hn1
      split at hs
      · rename_i hsum
        cases hs
        obtain ⟨g1, g2, g3, g4, g5⟩ := hc
        have hk1 : c1 ∈ jm_ks := jm_oks_head (jm_oks_tail (jm_oks_tail hos))
        have hk0 : c0 ∈ jm_ks := jm_oks_head (jm_oks_tail (jm_oks_tail (jm_oks_tail (jm_oks_tail hos))))
        obtain ⟨q0, hq0, hq0w⟩ := jm_ws_get (ad := ad) (cs := cs) (h := f.2.2.2) hk0
        obtain ⟨q1, hq1, hq1w⟩ := jm_ws_get (ad := ad) (cs := cs) (h := f.2.2.2) hk1
        have hset := jm_ws_set (ad := ad) (cs := cs) (h := f.2.2.2) hq1 (va_cpy (f.2.2.2 c0) (f.2.2.2 c1) sp.toNatClampNeg dp.toNatClampNeg n.toNatClampNeg)
        rw [hn0] at hq0w
        rw [hn1] at hq1w hset
        have hw := jm_at_T (jm_lk_all (P := jm_acpok) jm_acp_ok hon hacp)
        refine va_copyi (cl := jm_cl0) (tys := jm_ty cs) (ws := jm_ws ad cs f.2.2.2) (ty := .int) hx hb hls hown (hts _ hw) (hts _ (jm_at_T hsys.1.1)) (hts _ (jm_at_T hsys.1.2)) (hts _ (jm_at_T hsys.2)) hK hP hD hS q0 q1 0 0 hq0w hq1w rfl rfl rfl g1 g2 g3 g4 g5 (fun i _ => rfl) hfr ?_ hd (fun H1 locs1 hP1 hD1 hS1 => ?_)
        · rw [jm_wsum_cv]
          have : nativeFrameWords "java/lang/System" "arraycopy" 5 + 11 = 18 := by decide +kernel
          omega
        · have hset2 : (jm_ws ad cs f.2.2.2).set q1 (ad c1, .inl (cs 0, n1, .inl (va_cpy (f.2.2.2 c0) (f.2.2.2 c1) sp.toNatClampNeg dp.toNatClampNeg n.toNatClampNeg))) = jm_ws ad cs (jm_set f.2.2.2 c1 (va_cpy (f.2.2.2 c0) (f.2.2.2 c1) sp.toNatClampNeg dp.toNatClampNeg n.toNatClampNeg)) := hset
          rw [hset2] at hP1 hD1
          exact kk ls H1 locs1 ⟨hl, hol, jm_oks_tail (jm_oks_tail (jm_oks_tail (jm_oks_tail (jm_oks_tail hos)))), hP1, hD1, hS1⟩
      · cases hs
    · cases hs
  · rename_i pl y x st hacp hmth hst
    rw [hmth] at hlib
    obtain ⟨hfr, hlo⟩ : 1 ≤ R.frames ∧ 26 ≤ R.locals := hlib.resolve_left (fun q => by simp at q)
    rw [hst] at hos ⊢
    split at hs
    · rename_i hsum
      cases hs
      have hw := jm_lk_all (P := jm_mthok) jm_mth_ok hon hmth
      unfold jm_mthok at hw
      dsimp only at hw
      split at hw
      · simp only [Bool.and_eq_true] at hw
        refine va_mmax hx hb hls hown (hts _ (jm_at_T hw.1.1.1)) (hts _ (jm_at_T hw.1.1.2)) (hts _ (jm_at_T hw.1.2)) (hts _ (jm_at_T hw.2)) hfr (by rw [jm_wsum_cv]; omega) (Nat.zero_le _) (Nat.zero_le _) hd ?_
        exact kk ls H locs ⟨hl, hol, jm_oks_cons trivial (jm_oks_tail (jm_oks_tail hos)), hP, hD, hS⟩
      · rename_i hh; exact absurd hh (by decide)
      · rename_i hh; exact absurd hh (by decide)
      · cases hw
    · cases hs
  · rename_i pl y x st hacp hmth hst
    rw [hmth] at hlib
    obtain ⟨hfr, hlo⟩ : 1 ≤ R.frames ∧ 26 ≤ R.locals := hlib.resolve_left (fun q => by simp at q)
    rw [hst] at hos ⊢
    split at hs
    · rename_i hsum
      cases hs
      have hw := jm_lk_all (P := jm_mthok) jm_mth_ok hon hmth
      unfold jm_mthok at hw
      dsimp only at hw
      split at hw
      · rename_i hh; exact absurd hh (by decide)
      · simp only [Bool.and_eq_true] at hw
        refine va_mmin hx hb hls hown (hts _ (jm_at_T hw.1.1.1)) (hts _ (jm_at_T hw.1.1.2)) (hts _ (jm_at_T hw.1.2)) (hts _ (jm_at_T hw.2)) hfr (by rw [jm_wsum_cv]; omega) (Nat.zero_le _) (Nat.zero_le _) hd ?_
        exact kk ls H locs ⟨hl, hol, jm_oks_cons trivial (jm_oks_tail (jm_oks_tail hos)), hP, hD, hS⟩
      · rename_i hh; exact absurd hh (by decide)
      · cases hw
    · cases hs
  · rename_i pl x st hacp hmth hst
    rw [hmth] at hlib
    obtain ⟨hfr, hlo⟩ : 1 ≤ R.frames ∧ 26 ≤ R.locals := hlib.resolve_left (fun q => by simp at q)
    rw [hst] at hos ⊢
    split at hs
    · rename_i hsum
      cases hs
      have hw := jm_lk_all (P := jm_mthok) jm_mth_ok hon hmth
      unfold jm_mthok at hw
      dsimp only at hw
      split at hw
      · rename_i hh; exact absurd hh (by decide)
      · rename_i hh; exact absurd hh (by decide)
      · simp only [Bool.and_eq_true] at hw
        refine va_mabs hx hb hls hown (hts _ (jm_at_T hw.1.1.1)) (hts _ (jm_at_T hw.1.1.2)) (hts _ (jm_at_T hw.1.2)) (hts _ (jm_at_T hw.2)) hfr (by rw [jm_wsum_cv]; omega) (Nat.zero_le _) (Nat.zero_le _) hd ?_
        exact kk ls H locs ⟨hl, hol, jm_oks_cons trivial (jm_oks_tail hos), hP, hD, hS⟩
      · cases hw
    · cases hs
  · cases hs
end JMS
