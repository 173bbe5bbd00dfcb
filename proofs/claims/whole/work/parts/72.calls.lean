/-! CALLS of the small machine's methods out of any frame of the real one. -/
/-- the words of a call of kind kd out of the class own -/
def gz_cok (own : String) (kd : Nat) (q : lz_CT) : Bool := match jm_mt[q.2.2.2.1]? with
  | some r => jm_cok1 own q.1 kd q.2.1 q.2.2.1 r.1 q.2.2.2.2
  | none => false
section GZ
variable {p : Program} {l : Launch} {e : Env} {R : Room} {s : State} {m : MethodId} {args : Array Value} {below : List Frame} {meth : Method} {c : Code} {H : Heap} {locs : List Loc} {cells slots : Nat} {Q : State → Prop}
variable {D : va_G} {A A0 : Nat → Prop} {cs : Nat → ClassId} {ad : jm_K → Nat} {pc nL idx n ci mi nn : Nat} {cc : ByteArray} {own : String} {ps : List Nat} {ls : Array Slot} {rest : List Value} {h h1 : jm_M} {H0 : Heap} {r : jm_MT} {as : List jm_V} {k0 : jm_K}
/-- what any frame of a method of the class own knows -/
def gz_F (D : va_G) (cs : Nat → ClassId) (own : String) (cc : ByteArray) (nL : Nat) (p : Program) (s : State) (m : MethodId) (args : Array Value) (c : Code) : Prop :=
  p.tables.exec = Jvm.exec ∧ c.code = cc ∧ c.maxLocals = nL ∧ s.vm.findClass own = some m.cls ∧ (∀ w ∈ jm_T, w.before args s = true) ∧ va_K D jm_cl0 (jm_ty cs) s ∧ ∀ w ∈ jm_N, va_Nw w s
theorem gz_pre {av : List Value} (hF : gz_F D cs own cc nL p s m args c) (hP : va_P D jm_cl0 (jm_ws ad cs h) H) (hD : va_D A (jm_ws ad cs h)) : ∀ U : State, U.heap = H → s.WarmedH U.vm → va_Pc av (jm_Wd D A ad cs h) av.toArray U := fun U hU hW =>
  ⟨rfl, by rw [hU]; exact hP, va_K.moved hW.alike hF.2.2.2.2.2.1, hD, jm_N_warm hW hF.2.2.2.2.2.2⟩
def gz_fit (R : Room) (r : jm_MT) : Prop := r.2.2.2.2.1 + 1 ≤ R.frames ∧ 8 + (r.2.2.1 + 11) + r.2.2.2.2.2.1 ≤ R.locals
/-- a method of the receiver's own class -/
theorem gz_runV (hF : gz_F D cs own cc nL p s m args c) (hr : jm_mt[mi]? = some r) (hw : jm_cok1 own idx 2 n ci r.1 ps = true) (hfit : gz_fit R r) {fs : List (Option jm_K)} (hk : k0 ∈ jm_ks) (hsh : jm_sh k0 = some (.inl (ci, fs))) {out : Option jm_V × jm_M} (hn : as.length = n) (hok : jm_oks as) (hsz2 : jm_wsum as + 1 ≤ r.2.2.1)
    (hR : jm_Rn nn mi (jz_e mi k0 as h) out) (hd : decode cc pc = .ok (.invokevirtual idx, 3)) (hsz : ls.size = nL) (hrest : (rest.map fun v => v.category).sum ≤ 8) (hP : va_P D jm_cl0 (jm_ws ad cs h) H) (hD : va_D A (jm_ws ad cs h)) (hroom : cells ≤ R.cells ∧ slots ≤ R.slots) :
    va_Run p l e R s m args below meth c H locs cells slots 0 0 (F0 m pc ls ((as.map (jm_cv ad)).reverse ++ .ref (ad k0) :: rest)) rest (jm_Q D A ad cs out (Value.ref (ad k0) :: as.map (jm_cv ad)).toArray) A := by
  have hpre := fun av => gz_pre (av := av) hF hP hD
  obtain ⟨hx, hb, hml, hown, hts, hK, hN⟩ := hF
  unfold jm_cok1 at hw
  rw [Bool.and_eq_true] at hw
  obtain ⟨hpar, hw⟩ := hw
  obtain ⟨q0, hq0, hq1⟩ := jm_ws_get (ad := ad) (cs := cs) (h := h) hk
  obtain ⟨q, hq, -, -⟩ := jm_obj hk hsh
  rw [hsh] at hq1
  have hnm : jm_nm ci = q.1 := by unfold jm_nm; rw [hq]
  split at hw
  · rename_i hkd; exact absurd hkd (by decide)
  · rename_i hkd; exact absurd hkd (by decide)
  · simp only [Bool.and_eq_true, decide_eq_true_eq] at hw
    obtain ⟨⟨⟨⟨h1w, h2w⟩, h3w⟩, h4w⟩, h5w⟩ := hw
    have h3w := jm_at_T h3w
    rw [hnm] at h3w
    have hok2 : jm_oks ((.inr (.inr k0) : jm_V) :: as) := jm_oks_cons hk hok
    have hs3 : jm_wsum ((.inr (.inr k0) : jm_V) :: as) ≤ r.2.2.1 := by
      have e1 : jm_wsum ((.inr (.inr k0) : jm_V) :: as) = 1 + jm_wsum as := by simp [jm_wsum, jm_cat]
      rw [e1]; omega
    have hM := jm_met (jm_run_W nn) hr hR hok2 hs3 l D A ad cs
    exact va_runV (C := q.1) (As := as.map (jm_cv ad)) ⟨hx, hb, hml, hown, hts⟩ hM ⟨callB_of n hts (jm_good hr) rfl rfl rfl (hts _ (jm_at_T h4w)) (hts _ (jm_at_T h1w)) (jm_par_spec hpar) hfit, hts _ (jm_at_T h2w), hts _ h3w⟩ ⟨jm_blind, va_recv hK hP hq hq1, hpre _⟩ rfl (by rw [List.length_map]; exact hn) hsz rfl (lv_room hrest) hd hroom
  · rename_i hkd; exact absurd hkd (by decide)
  · rename_i hkd; exact absurd hkd (by decide)
  · cases hw
/-- a static method -/
theorem gz_runS (hF : gz_F D cs own cc nL p s m args c) (hr : jm_mt[mi]? = some r) (hw : jm_cok1 own idx 0 n ci r.1 ps = true) (hfit : gz_fit R r) {out : Option jm_V × jm_M} (hn : as.length = n) (hok : jm_oks as) (hsz2 : jm_wsum as ≤ r.2.2.1)
    (hR : jm_Rn nn mi (0, jm_args 0 as, [], h) out) (hd : decode cc pc = .ok (.invokestatic idx, 3)) (hsz : ls.size = nL) (hrest : (rest.map fun v => v.category).sum ≤ 8) (hP : va_P D jm_cl0 (jm_ws ad cs h) H) (hD : va_D A (jm_ws ad cs h)) (hroom : cells ≤ R.cells ∧ slots ≤ R.slots) :
    va_Run p l e R s m args below meth c H locs cells slots 0 0 (F0 m pc ls ((as.map (jm_cv ad)).reverse ++ rest)) rest (jm_Q D A ad cs out (as.map (jm_cv ad)).toArray) A := by
  have hpre := fun av => gz_pre (av := av) hF hP hD
  obtain ⟨hx, hb, hml, hown, hts, hK, hN⟩ := hF
  unfold jm_cok1 at hw
  rw [Bool.and_eq_true] at hw
  obtain ⟨hpar, hw⟩ := hw
  split at hw
  · simp only [Bool.and_eq_true] at hw
    obtain ⟨⟨h1w, h2w⟩, h3w⟩ := hw
    exact va_runS (As := as.map (jm_cv ad)) ⟨hx, hb, hml, hown, hts⟩ (jm_met (jm_run_W nn) hr hR hok hsz2 l D A ad cs) ⟨callB_of n hts (jm_good hr) rfl rfl rfl (hts _ (jm_at_T h3w)) (hts _ (jm_at_T h1w)) (jm_par_spec hpar) hfit, hts _ (jm_at_T h2w)⟩ ⟨jm_blind, hpre _⟩ rfl (by rw [List.length_map]; exact hn) hsz rfl (lv_room hrest) hd hroom
  · rename_i hkd; exact absurd hkd (by decide)
  · rename_i hkd; exact absurd hkd (by decide)
  · rename_i hkd; exact absurd hkd (by decide)
  · rename_i hkd; exact absurd hkd (by decide)
  · cases hw
/-- a method of Cat, by the receiver's class -/
theorem gz_runU (hF : gz_F D cs own cc nL p s m args c) (hr : jm_mt[mi]? = some r) (hw : jm_cok1 own idx 3 n ci r.1 ps = true) (hfit : gz_fit R r) {fs : List (Option jm_K)} (hk : k0 ∈ jm_ks) (hsh : jm_sh k0 = some (.inl (ci, fs))) {out : Option jm_V × jm_M} (hn : as.length = n) (hok : jm_oks as) (hsz2 : jm_wsum as + 1 ≤ r.2.2.1)
    (hR : jm_Rn nn mi (jz_e mi k0 as h) out) (hd : decode cc pc = .ok (.invokevirtual idx, 3)) (hsz : ls.size = nL) (hrest : (rest.map fun v => v.category).sum ≤ 8) (hP : va_P D jm_cl0 (jm_ws ad cs h) H) (hD : va_D A (jm_ws ad cs h)) (hroom : cells ≤ R.cells ∧ slots ≤ R.slots) :
    va_Run p l e R s m args below meth c H locs cells slots 0 0 (F0 m pc ls ((as.map (jm_cv ad)).reverse ++ .ref (ad k0) :: rest)) rest (jm_Q D A ad cs out (Value.ref (ad k0) :: as.map (jm_cv ad)).toArray) A := by
  have hpre := fun av => gz_pre (av := av) hF hP hD
  obtain ⟨hx, hb, hml, hown, hts, hK, hN⟩ := hF
  unfold jm_cok1 at hw
  rw [Bool.and_eq_true] at hw
  obtain ⟨hpar, hw⟩ := hw
  obtain ⟨q0, hq0, hq1⟩ := jm_ws_get (ad := ad) (cs := cs) (h := h) hk
  obtain ⟨q, hq, -, -⟩ := jm_obj hk hsh
  rw [hsh] at hq1
  have hnm : jm_nm ci = q.1 := by unfold jm_nm; rw [hq]
  split at hw
  · rename_i hkd; exact absurd hkd (by decide)
  · rename_i hkd; exact absurd hkd (by decide)
  · rename_i hkd; exact absurd hkd (by decide)
  · simp only [Bool.and_eq_true] at hw
    obtain ⟨⟨⟨⟨⟨⟨h1, h2⟩, h3⟩, h4⟩, h5⟩, h6⟩, h7⟩ := hw
    have h4 := jm_at_T h4
    rw [hnm] at h4
    split at h7
    · rename_i x0 b0 m0 r0 hz
      simp only [Bool.and_eq_true, decide_eq_true_eq] at h7
      have hz2 : Cond.code x0 b0 m0 r0 ∈ jm_T := List.mem_filter.mpr ⟨List.mem_of_getElem? hz, h7.2⟩
      rw [h7.1] at hz2
      have hok2 : jm_oks ((.inr (.inr k0) : jm_V) :: as) := jm_oks_cons hk hok
      have hs3 : jm_wsum ((.inr (.inr k0) : jm_V) :: as) ≤ r.2.2.1 := by
        have e1 : jm_wsum ((.inr (.inr k0) : jm_V) :: as) = 1 + jm_wsum as := by simp [jm_wsum, jm_cat]
        rw [e1]; omega
      have hM := jm_met (jm_run_W nn) hr hR hok2 hs3 l D A ad cs
      have hcm : Cond.code r.1 r.2.1 r.2.2.1 r.2.2.2.1 ∈ jm_wsM r := List.mem_cons_self
      have hcu : va_CU R s args own q.1 "PapersAreOnCats$Cat" idx ⟨"PapersAreOnCats$Cat", r.1.name, r.1.desc⟩ r.1 r.2.1 r.2.2.1 r.2.2.2.1 (jm_wsM r) (jm_R r) 0 0 n :=
        ⟨⟨rfl, rfl, hfit.1, hfit.2, pay_in hts (jm_good hr), hcm⟩, hts _ (jm_mt_code hr).1, hts _ (jm_at_T h6), ⟨by decide, by decide⟩, jm_len_par (y := r.1) hpar, hts _ (jm_at_T h1), hts _ (jm_at_T h2), va_Decl.of (hts _ (jm_at_T h3)) (hts _ hz2), hts _ h4, hts _ (jm_at_T h5)⟩
      exact va_runU (As := as.map (jm_cv ad)) ⟨hx, hb, hml, hown, hts⟩ hM hcu ⟨jm_blind, va_recv hK hP hq hq1, hpre _⟩ rfl (by rw [List.length_map]; exact hn) hsz rfl (lv_room hrest) hd hroom
    · cases h7
  · rename_i hkd; exact absurd hkd (by decide)
  · cases hw
/-- behind such a call -/
theorem gz_cont {v : jm_V} {st0 : List Value} {a : Array Value} (hr : va_Run p l e R s m args below meth c H locs cells slots 0 0 (F0 m pc ls st0) rest (jm_Q D A ad cs (some v, h1) a) A) (hS : va_S A0 H0 H locs) (hA : ∀ q, A q → A0 q) (hv : jc_I v ∨ jc_L v)
    (kk : ∀ (H1 : Heap) (locs1 : List Loc), va_P D jm_cl0 (jm_ws ad cs h1) H1 → va_D A (jm_ws ad cs h1) → va_S A0 H0 H1 locs1 → W p l e R s m args below meth c H1 locs1 cells slots Q (F0 m (pc + 3) ls (jm_cv ad v :: rest))) : W p l e R s m args below meth c H locs cells slots Q (F0 m pc ls st0) := by
  rcases hv with ⟨x, rfl⟩ | ⟨x, rfl⟩
  · refine va_calli (a := a) hr hS (fun q _ h => hA q h) hA (fun y u t H1 locs1 ht _ hp hB _ _ hS' => ?_)
    obtain ⟨hP, -, hD, -⟩ := hB
    obtain ⟨rfl, rfl⟩ := hp
    subst ht
    exact kk _ _ hP hD hS'
  · refine va_calll (a := a) hr hS (fun q _ h => hA q h) hA (fun y u t H1 locs1 ht _ hp hB _ _ hS' => ?_)
    obtain ⟨hP, -, hD, -⟩ := hB
    obtain ⟨rfl, rfl⟩ := hp
    subst ht
    exact kk _ _ hP hD hS'
end GZ
