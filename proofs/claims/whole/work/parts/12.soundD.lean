/-! THE SMALL MACHINE over the real one: calls, returns, whole methods. -/
def jm_wsM (r : jm_MT) : List Cond := Cond.code r.1 r.2.1 r.2.2.1 r.2.2.2.1 :: jm_T
theorem jm_mt_code {mi : Nat} {r : jm_MT} (h : jm_mt[mi]? = some r) : Cond.code r.1 r.2.1 r.2.2.1 r.2.2.2.1 ∈ jm_T ∧ plainName r.1.cls = true := by
  obtain ⟨i, hi⟩ := jm_mt_all r (List.mem_of_getElem? h)
  unfold jm_mtok at hi
  rw [Bool.and_eq_true] at hi
  exact ⟨jm_at_T hi.1, hi.2⟩
theorem jm_good {mi : Nat} {r : jm_MT} (h : jm_mt[mi]? = some r) : GoodIn jm_T (jm_wsM r) := by
  intro w hw
  have h1 : w ∈ jm_T := (List.mem_cons.mp hw).elim (fun e => by rw [e]; exact (jm_mt_code h).1) id
  exact ⟨h1, good_of_word (List.mem_filter.mp h1).2⟩
theorem jm_mt_own {mi : Nat} {r : jm_MT} (h : jm_mt[mi]? = some r) : jm_on[r.2.2.2.2.2.2]? = some r.1.cls := of_decide_eq_true (List.all_eq_true.mp jm_own_ok r (List.mem_of_getElem? h))
theorem jm_par_spec {y : MethodName} {n : Nat} (h : jm_par y n = true) : y.cls ≠ "java/lang/invoke/MethodHandle" ∧ y.cls ≠ "java/lang/invoke/VarHandle" ∧ (parseMethodDescriptor y.desc).map (fun d => d.parameters.length) = some n := by
  unfold jm_par at h
  simp only [Bool.and_eq_true, decide_eq_true_eq] at h
  exact ⟨h.1.1, h.1.2, h.2⟩
theorem jm_len_par {y : MethodName} {n : Nat} (h : jm_par y n = true) : ∀ sig, parseMethodDescriptor y.desc = some sig → n = sig.parameters.length := by
  intro sig hs
  have h2 := (jm_par_spec h).2.2
  rw [hs] at h2
  exact (Option.some.inj h2).symm
theorem jm_N_warm {s U : State} (hW : s.WarmedH U.vm) (h : ∀ w ∈ jm_N, va_Nw w s) : ∀ w ∈ jm_N, va_Nw w U := by
  intro w hw
  have h1 := h w hw
  have h2 := (List.mem_filter.mp hw).2
  unfold jm_isN at h2
  split at h2
  · exact va_Nw.warmM hW h1
  · cases h2
theorem jm_N_same {u U : State} (hv : u.vm = U.vm) (h : ∀ w ∈ jm_N, va_Nw w u) : ∀ w ∈ jm_N, va_Nw w U := by
  intro w hw
  have h1 := h w hw
  have h2 := (List.mem_filter.mp hw).2
  unfold jm_isN at h2
  split at h2
  · exact va_Nw.same rfl hv h1
  · cases h2
theorem jm_blind {av : List Value} {D : va_G} {A : Nat → Prop} {ad : jm_K → Nat} {cs : Nat → ClassId} {h : jm_M} : FrameBlind (va_Pc av (jm_Wd D A ad cs h)) := fun a U g mk q =>
  ⟨q.1, q.2.1, va_K.moved (u := U) (U := U.calling g mk a) (Vm.Alike.refl U.vm) q.2.2.1, q.2.2.2.1, jm_N_same (u := U) (U := U.calling g mk a) rfl q.2.2.2.2⟩
theorem jm_sl_len (ad : jm_K → Nat) (as : List jm_V) : (lg_sl (as.map (jm_cv ad))).length = jm_wsum as := by
  induction as with
  | nil => rfl
  | cons v t ih =>
    have e : lg_sl ((v :: t).map (jm_cv ad)) = (if (jm_cv ad v).category = 2 then [Slot.val (jm_cv ad v), Slot.second] else [Slot.val (jm_cv ad v)]) ++ lg_sl (t.map (jm_cv ad)) := rfl
    rw [e, List.length_append, ih, jm_cv_cat]
    have e2 : jm_wsum (v :: t) = jm_cat v + jm_wsum t := by simp [jm_wsum]
    rw [e2]
    rcases v with x | x | x <;> rfl
theorem jm_args_cv (ad : jm_K → Nat) (as : List jm_V) : ∀ i, lv_args i (as.map (jm_cv ad)) = jm_cvl ad (jm_args i as) := by
  induction as with
  | nil => intro i; rfl
  | cons v t ih =>
    intro i
    simp only [List.map_cons, lv_args, jm_args, jm_cvl, jm_cv_cat, ih]
theorem jm_oks_nil : jm_oks [] := fun v hv => by cases hv
theorem jm_okl_args {as : List jm_V} (h : jm_oks as) : ∀ i, jm_okl (jm_args i as) := by
  induction as with
  | nil => intro i q hq; cases hq
  | cons v t ih =>
    intro i q hq
    rcases List.mem_cons.mp hq with rfl | hq
    · exact h v List.mem_cons_self
    · exact ih (jm_oks_tail h) _ q hq
section JMD
variable {p : Program} {l : Launch} {e : Env} {R : Room} {s : State} {m : MethodId} {args : Array Value} {below : List Frame} {meth : Method} {c : Code} {H : Heap} {locs : List Loc} {Q : State → Prop}
variable {D : va_G} {A : Nat → Prop} {ad : jm_K → Nat} {cs : Nat → ClassId} {H0 : Heap} {r r' : jm_MT} {ls : Array Slot} {h h' : jm_M} {pc : Nat}
theorem jm_pre {av : List Value} (hF : jm_Fx D cs r p s m args meth c) (hP : va_P D jm_cl0 (jm_ws ad cs h) H) (hD : va_D A (jm_ws ad cs h)) : ∀ U : State, U.heap = H → s.WarmedH U.vm → va_Pc av (jm_Wd D A ad cs h) av.toArray U := fun U hU hW =>
  ⟨rfl, by rw [hU]; exact hP, va_K.moved hW.alike hF.2.2.2.2.2.1, hD, jm_N_warm hW hF.2.2.2.2.2.2.1⟩
/-- behind a call -/
theorem jm_cont {u : Option jm_V} {st0 rest : List Value} {a : Array Value} (hr : va_Run p l e R s m args below meth c H locs 0 0 0 0 (F0 m pc ls st0) rest (jm_Q D A ad cs (u, h') a) A) (hS : va_S A H0 H locs)
    (kk : ∀ (H1 : Heap) (locs1 : List Loc), va_P D jm_cl0 (jm_ws ad cs h') H1 → va_D A (jm_ws ad cs h') → va_S A H0 H1 locs1 → W p l e R s m args below meth c H1 locs1 0 0 Q (F0 m (pc + 3) ls ((u.toList.map (jm_cv ad)) ++ rest))) : W p l e R s m args below meth c H locs 0 0 Q (F0 m pc ls st0) := by
  rcases u with _ | x | x | x
  · refine va_callv (a := a) hr hS (fun _ _ h => h) (fun _ h => h) (fun u t H1 locs1 ht _ hp hB _ _ hS' => ?_)
    obtain ⟨hP, -, hD, -⟩ := hB
    subst ht
    subst hp
    exact kk _ _ hP hD hS'
  · refine va_calli (a := a) hr hS (fun _ _ h => h) (fun _ h => h) (fun y u t H1 locs1 ht _ hp hB _ _ hS' => ?_)
    obtain ⟨hP, -, hD, -⟩ := hB
    obtain ⟨rfl, rfl⟩ := hp
    subst ht
    exact kk _ _ hP hD hS'
  · refine va_calll (a := a) hr hS (fun _ _ h => h) (fun _ h => h) (fun y u t H1 locs1 ht _ hp hB _ _ hS' => ?_)
    obtain ⟨hP, -, hD, -⟩ := hB
    obtain ⟨rfl, rfl⟩ := hp
    subst ht
    exact kk _ _ hP hD hS'
  · intro T hT X
    obtain ⟨_, _, _, _, _, _, _, _, _, _, hq, _⟩ := hr T hT X
    exact hq.elim
theorem jm_st_split {ad : jm_K → Nat} (st : List jm_V) (n : Nat) : st.map (jm_cv ad) = (((st.take n).reverse).map (jm_cv ad)).reverse ++ (st.drop n).map (jm_cv ad) := by
  rw [← List.map_reverse, List.reverse_reverse, ← List.map_append, List.take_append_drop]
set_option maxHeartbeats 4000000 in
set_option maxRecDepth 100000 in
/-- a call, up to what stands behind it -/
theorem jm_call_W {i : Instr} {st as rest : List jm_V} {mi' : Nat} {out : Option jm_V × jm_M} (hc : jm_call r.2.2.2.2.2.2 i st = some (mi', as, rest)) (hr' : jm_mt[mi']? = some r') (hfit : jm_fit r r' as rest = true)
    (hF : jm_Fx D cs r p s m args meth c) (hd : decode r.2.1 pc = .ok (i, 3)) (hos : jm_oks st)
    (hM : jm_oks as → Met l r'.1 (jm_wsM r') (jm_R r') (va_Pc (as.map (jm_cv ad)) (jm_Wd D A ad cs h)) (jm_Q D A ad cs out) 0 0 A)
    (hl : ls.size = r.2.2.1) (hP : va_P D jm_cl0 (jm_ws ad cs h) H) (hD : va_D A (jm_ws ad cs h)) :
    va_Run p l e (jm_R r) s m args below meth c H locs 0 0 0 0 (F0 m pc ls (st.map (jm_cv ad))) (rest.map (jm_cv ad)) (jm_Q D A ad cs out (as.map (jm_cv ad)).toArray) A ∧ jm_oks rest := by
  have hG := jm_good hr'
  have hpre := fun av => jm_pre (av := av) hF hP hD
  obtain ⟨hx, hb, hml, hown, hts, hK, hN, hrt, hlocks, hon⟩ := hF
  unfold jm_fit at hfit
  simp only [Bool.and_eq_true, decide_eq_true_eq] at hfit
  obtain ⟨⟨⟨hf1, hf2⟩, hf3⟩, hf4⟩ := hfit
  have hwr : 2 * (F0 m pc ls (st.map (jm_cv ad))).monitorRoom + ((rest.map (jm_cv ad)).map fun v => v.category).sum ≤ 8 := lv_room (by rw [jm_wsum_cv]; exact hf3)
  have hcode := hts _ (jm_mt_code hr').1
  have hcm : Cond.code r'.1 r'.2.1 r'.2.2.1 r'.2.2.2.1 ∈ jm_wsM r' := List.mem_cons_self
  unfold jm_call at hc
  split at hc
  · -- invokestatic
    rename_i idx
    split at hc
    · rename_i kd n t hlk
      split at hc
      · rename_i hcond
        cases hc
        have hw := jm_lk_all (P := jm_cok jm_mt) jm_cs_all hon hlk
        unfold jm_cok at hw
        simp only [List.all_cons, List.all_nil, Bool.and_true] at hw
        rw [hr'] at hw
        dsimp only at hw
        unfold jm_cok1 at hw
        rw [Bool.and_eq_true] at hw
        obtain ⟨hpar, hw⟩ := hw
        have hle := hcond.2
        have hlen : (((st.take n).reverse).map (jm_cv ad)).length = n := by simp; omega
        have hst := jm_st_split (ad := ad) st n
        have hoa : jm_oks (st.take n).reverse := fun v hv => hos v (List.mem_of_mem_take (List.mem_reverse.mp hv))
        refine ⟨?_, fun v hv => hos v (List.mem_of_mem_drop hv)⟩
        split at hw
        · simp only [Bool.and_eq_true] at hw
          obtain ⟨⟨h1, h2⟩, h3⟩ := hw
          exact va_runS ⟨hx, hb, hml, hown, hts⟩ (hM hoa) ⟨callB_of n hts hG rfl rfl rfl (hts _ (jm_at_T h3)) (hts _ (jm_at_T h1)) (jm_par_spec hpar) ⟨hf1, hf2⟩, hts _ (jm_at_T h2)⟩ ⟨jm_blind, hpre _⟩ rfl hlen hl hst hwr hd ⟨Nat.le_refl _, Nat.le_refl _⟩
        · simp only [Bool.and_eq_true] at hw
          obtain ⟨⟨h1, h2⟩, h3⟩ := hw
          exact va_runSN ⟨hx, hb, hml, hown, hts⟩ (hM hoa) ⟨va_cnB n hts hG rfl rfl rfl (hN _ (jm_at_N h1)) (hts _ (jm_at_T h3)) (jm_par_spec hpar) ⟨hf1, hf2⟩, hts _ (jm_at_T h2), trivial⟩ ⟨jm_blind, hpre _⟩ rfl hlen hl hst hwr hd ⟨Nat.le_refl _, Nat.le_refl _⟩
        · exact absurd hcond.1 (by decide)
        · exact absurd hcond.1 (by decide)
        · exact absurd hcond.1 (by decide)
        · cases hw
      · cases hc
    · cases hc
  · -- invokespecial
    rename_i idx
    split at hc
    · rename_i n t k0 rr hlk hst0
      rw [hlk] at hst0
      dsimp only [Option.map_some, Option.getD_some] at hst0
      split at hc
      · rename_i pq hsh
        obtain ⟨ci, fs⟩ := pq
        cases hc
        have hw := jm_lk_all (P := jm_cok jm_mt) jm_cs_all hon hlk
        unfold jm_cok at hw
        simp only [List.all_cons, List.all_nil, Bool.and_true] at hw
        rw [hr'] at hw
        dsimp only at hw
        unfold jm_cok1 at hw
        rw [Bool.and_eq_true] at hw
        obtain ⟨hpar, hw⟩ := hw
        have hnl : n < st.length := by
          rcases Nat.lt_or_ge n st.length with q | q
          · exact q
          · rw [List.drop_eq_nil_of_le q] at hst0; cases hst0
        have hlen : (((st.take n).reverse).map (jm_cv ad)).length = n := by simp; omega
        have hst := jm_st_split (ad := ad) st n
        rw [hst0, List.map_cons] at hst
        have hok0 : ∀ v ∈ (Sum.inr (Sum.inr k0) : jm_V) :: rest, jm_okv v := fun v hv => hos v (List.mem_of_mem_drop (by rw [hst0]; exact hv))
        have hk0 : k0 ∈ jm_ks := hok0 _ List.mem_cons_self
        have hoa : jm_oks ((Sum.inr (Sum.inr k0) : jm_V) :: (st.take n).reverse) := jm_oks_cons hk0 (fun v hv => hos v (List.mem_of_mem_take (List.mem_reverse.mp hv)))
        refine ⟨?_, fun v hv => hok0 v (List.mem_cons_of_mem _ hv)⟩
        obtain ⟨q0, hq0, hq1⟩ := jm_ws_get (ad := ad) (cs := cs) (h := h) hk0
        obtain ⟨q, hq, -, -⟩ := jm_obj hk0 hsh
        rw [hsh] at hq1
        split at hw
        · rename_i heq _; exact absurd heq (by decide)
        · rename_i heq _; exact absurd heq (by decide)
        · rename_i heq _; exact absurd heq (by decide)
        · rename_i heq _; exact absurd heq (by decide)
        · simp only [Bool.and_eq_true, decide_eq_true_eq] at hw
          obtain ⟨⟨⟨⟨⟨h1, h2⟩, h3⟩, h4⟩, h5⟩, h6⟩ := hw
          exact va_runSU (C := q.1) (hK.1 ci q hq).2 ⟨hx, hb, hml, hown, hts⟩ (hM hoa) ⟨⟨rfl, rfl, hf1, hf2, pay_in hts hG, hcm⟩, hts _ (jm_at_T h1), hts _ (jm_at_T h2), hts _ (jm_at_T h3), hts _ (jm_at_T h4), hts _ (jm_at_T h5), hcode, h6, jm_len_par hpar⟩ ⟨jm_blind, va_recv hK hP hq hq1, hpre _⟩ rfl hlen hl hst hwr hd ⟨Nat.le_refl _, Nat.le_refl _⟩
        · cases hw
      · cases hc
    · cases hc
  · -- invokevirtual
    rename_i idx
    split at hc
    · rename_i kd n ts k0 rr hlk hst0
      rw [hlk] at hst0
      dsimp only [Option.map_some, Option.getD_some] at hst0
      split at hc
      · rename_i ci fs hsh
        split at hc
        · rename_i t hlt
          split at hc
          · rename_i hkd
            cases hc
            have hw := jm_lk_all (P := jm_cok jm_mt) jm_cs_all hon hlk
            unfold jm_cok at hw
            have hw := List.all_eq_true.mp hw _ (jm_lookup_mem hlt)
            dsimp only at hw
            rw [hr'] at hw
            dsimp only at hw
            unfold jm_cok1 at hw
            rw [Bool.and_eq_true] at hw
            obtain ⟨hpar, hw⟩ := hw
            have hnl : n < st.length := by
              rcases Nat.lt_or_ge n st.length with q | q
              · exact q
              · rw [List.drop_eq_nil_of_le q] at hst0; cases hst0
            have hlen : (((st.take n).reverse).map (jm_cv ad)).length = n := by simp; omega
            have hst := jm_st_split (ad := ad) st n
            rw [hst0, List.map_cons] at hst
            have hok0 : ∀ v ∈ (Sum.inr (Sum.inr k0) : jm_V) :: rest, jm_okv v := fun v hv => hos v (List.mem_of_mem_drop (by rw [hst0]; exact hv))
            have hk0 : k0 ∈ jm_ks := hok0 _ List.mem_cons_self
            have hoa : jm_oks ((Sum.inr (Sum.inr k0) : jm_V) :: (st.take n).reverse) := jm_oks_cons hk0 (fun v hv => hos v (List.mem_of_mem_take (List.mem_reverse.mp hv)))
            refine ⟨?_, fun v hv => hok0 v (List.mem_cons_of_mem _ hv)⟩
            obtain ⟨q0, hq0, hq1⟩ := jm_ws_get (ad := ad) (cs := cs) (h := h) hk0
            obtain ⟨q, hq, -, -⟩ := jm_obj hk0 hsh
            rw [hsh] at hq1
            have hnm : jm_nm ci = q.1 := by unfold jm_nm; rw [hq]
            split at hw
            · exact absurd hkd (by decide)
            · exact absurd hkd (by decide)
            · simp only [Bool.and_eq_true, decide_eq_true_eq] at hw
              obtain ⟨⟨⟨⟨h1, h2⟩, h3⟩, h4⟩, h5⟩ := hw
              have h3 := jm_at_T h3
              rw [hnm] at h3
              exact va_runV (C := q.1) ⟨hx, hb, hml, hown, hts⟩ (hM hoa) ⟨callB_of n hts hG rfl rfl rfl (hts _ (jm_at_T h4)) (hts _ (jm_at_T h1)) (jm_par_spec hpar) ⟨hf1, hf2⟩, hts _ (jm_at_T h2), hts _ h3⟩ ⟨jm_blind, va_recv hK hP hq hq1, hpre _⟩ rfl hlen hl hst hwr hd ⟨Nat.le_refl _, Nat.le_refl _⟩
            · simp only [Bool.and_eq_true] at hw
              obtain ⟨⟨⟨⟨⟨⟨h1, h2⟩, h3⟩, h4⟩, h5⟩, h6⟩, h7⟩ := hw
              have h4 := jm_at_T h4
              rw [hnm] at h4
              split at h7
              · rename_i x0 b0 m0 r0 hz
                simp only [Bool.and_eq_true, decide_eq_true_eq] at h7
                have hz2 : Cond.code x0 b0 m0 r0 ∈ jm_T := List.mem_filter.mpr ⟨List.mem_of_getElem? hz, h7.2⟩
                rw [h7.1] at hz2
                have hcu : va_CU (jm_R r) s args r.1.cls q.1 "PapersAreOnCats$Cat" idx ⟨"PapersAreOnCats$Cat", r'.1.name, r'.1.desc⟩ r'.1 r'.2.1 r'.2.2.1 r'.2.2.2.1 (jm_wsM r') (jm_R r') 0 0 n :=
                  ⟨⟨rfl, rfl, hf1, hf2, pay_in hts hG, hcm⟩, hcode, hts _ (jm_at_T h6), ⟨by decide, by decide⟩, jm_len_par (y := r'.1) hpar, hts _ (jm_at_T h1), hts _ (jm_at_T h2), va_Decl.of (hts _ (jm_at_T h3)) (hts _ hz2), hts _ h4, hts _ (jm_at_T h5)⟩
                exact va_runU ⟨hx, hb, hml, hown, hts⟩ (hM hoa) hcu ⟨jm_blind, va_recv hK hP hq hq1, hpre _⟩ rfl hlen hl hst hwr hd ⟨Nat.le_refl _, Nat.le_refl _⟩
              · cases h7
            · exact absurd hkd (by decide)
            · cases hw
          · cases hc
        · cases hc
      · cases hc
    · cases hc
  · cases hc
/-- the end of a method -/
theorem jm_ret_W {i : Instr} {len : Nat} {st : List jm_V} {cnd : Prop} {u : Option jm_V} (hret : jm_ret r.2.2.2.1 i st = some (cnd, u)) (hc : cnd) (hF : jm_Fx D cs r p s m args meth c) (hd : decode r.2.1 pc = .ok (i, len)) (hn : len = jm_len i ∨ jm_sw i = true)
    (hP : va_P D jm_cl0 (jm_ws ad cs h) H) (hD : va_D A (jm_ws ad cs h)) (hS : va_S A s.heap H locs) :
    W p l e (jm_R r) s m args below meth c H locs 0 0 (MQ below (jm_Q D A ad cs (u, h)) args s 0 0 A) (F0 m pc ls (st.map (jm_cv ad))) := by
  obtain ⟨hx, hb, hml, hown, hts, hK, hN, hrt, hlocks, hon⟩ := hF
  unfold jm_ret at hret
  split at hret
  · rename_i hty
    cases hret
    obtain rfl : len = 1 := by simpa [jm_len, jm_sw] using hn
    exact W.vret hx hb (hrt.trans hty) (fun t ht hW => ⟨⟨h, rfl, rfl, by rw [ht]; exact hP, va_K.moved hW.alike hK, hD, jm_N_warm hW hN⟩, hS.F ht⟩) hS.2.2 hd hlocks
  · rename_i x hty
    cases hret
    obtain rfl : len = 1 := by simpa [jm_len, jm_sw] using hn
    exact W.iret hx hb (hrt.trans hty) (fun t ht hW => ⟨⟨x, h, rfl, ⟨rfl, rfl⟩, by rw [ht]; exact hP, va_K.moved hW.alike hK, hD, jm_N_warm hW hN⟩, hS.F ht⟩) hS.2.2 hd hlocks
  · rename_i x hty
    cases hret
    obtain rfl : len = 1 := by simpa [jm_len, jm_sw] using hn
    exact W.zret hx hb (hrt.trans hty) (by rcases hc with rfl | rfl <;> rfl) (fun t ht hW => ⟨⟨x, h, rfl, ⟨rfl, rfl⟩, by rw [ht]; exact hP, va_K.moved hW.alike hK, hD, jm_N_warm hW hN⟩, hS.F ht⟩) hS.2.2 hd hlocks
  · rename_i x hty
    cases hret
    obtain rfl : len = 1 := by simpa [jm_len, jm_sw] using hn
    exact W.lret hx hb (hrt.trans hty) (fun t ht hW => ⟨⟨x, h, rfl, ⟨rfl, rfl⟩, by rw [ht]; exact hP, va_K.moved hW.alike hK, hD, jm_N_warm hW hN⟩, hS.F ht⟩) hS.2.2 hd hlocks
  · cases hret
end JMD
def jm_RW (n : Nat) : Prop := ∀ (mi : Nat) (r : jm_MT) (f : jm_F) (out : Option jm_V × jm_M), jm_mt[mi]? = some r → jm_Rn n mi f out → ∀ (D : va_G) (A : Nat → Prop) (ad : jm_K → Nat) (cs : Nat → ClassId) (p : Program) (l : Launch) (e : Env) (s : State) (m : MethodId) (args : Array Value) (below : List Frame) (meth : Method) (c : Code) (H : Heap) (locs : List Loc) (ls : Array Slot), jm_Fx D cs r p s m args meth c → jm_Fr D A ad cs s.heap r.2.2.1 f ls H locs → W p l e (jm_R r) s m args below meth c H locs 0 0 (MQ below (jm_Q D A ad cs out) args s 0 0 A) (F0 m f.1 ls (f.2.2.1.map (jm_cv ad)))
theorem jm_met {n : Nat} (hn : jm_RW n) {mi : Nat} {r : jm_MT} {as : List jm_V} {h : jm_M} {out : Option jm_V × jm_M} (hr : jm_mt[mi]? = some r) (hR : jm_Rn n mi (0, jm_args 0 as, [], h) out) (hok : jm_oks as) (hsz : jm_wsum as ≤ r.2.2.1) (l : Launch) (D : va_G) (A : Nat → Prop) (ad : jm_K → Nat) (cs : Nat → ClassId) :
    Met l r.1 (jm_wsM r) (jm_R r) (va_Pc (as.map (jm_cv ad)) (jm_Wd D A ad cs h)) (jm_Q D A ad cs out) 0 0 A := by
  refine Met.ofW (cc := r.2.1) (maxL := r.2.2.1) (ret := r.2.2.2.1) (jm_mt_code hr).2 rfl ?_
  intro p e s m args below meth c s₁ B hml hv
  obtain ⟨rfl, hP, hK, hD, hN⟩ := hv
  have hts := atoms_spec (ws := jm_wsM r) B.pre
  rw [lg_entry_eq]
  have hl := lv_entry (as.map (jm_cv ad)) (n := r.2.2.1) (by rw [jm_sl_len]; exact hsz)
  rw [jm_args_cv] at hl
  generalize (lg_sl (as.map (jm_cv ad)) ++ List.replicate (r.2.2.1 - (lg_sl (as.map (jm_cv ad))).length) Slot.unset).toArray = ls at hl ⊢
  exact hn mi r (0, jm_args 0 as, [], h) out hr hR D A ad cs p l e s m _ below meth c s.heap [] ls ⟨B.exec, B.bytes, hml, findClass_of_methodNamed B.named, fun w hw => hts w (List.mem_cons_of_mem _ hw), hK, hN, B.returns, B.notSynchronized, jm_mt_own hr⟩ ⟨hl, jm_okl_args hok 0, jm_oks_nil, hP, hD, va_S.rf⟩
theorem jm_in_of {mi : Nat} {r : jm_MT} {il : List jm_IT} (hr : jm_mt[mi]? = some r) (hil : jm_is[mi]? = some il) : (il, r) ∈ jm_is.zip jm_mt := by
  refine List.mem_iff_getElem?.mpr ⟨mi, ?_⟩
  rw [List.getElem?_zip_eq_some]
  exact ⟨hil, hr⟩
theorem jm_noref : ∀ {n mi : Nat} {f : jm_F} {k : jm_K} {h : jm_M}, jm_Rn n mi f (some (.inr (.inr k)), h) → False := by
  intro n
  induction n with
  | zero => intro mi f k h hR; exact hR
  | succ n ih =>
    intro mi f k h hR
    rcases hR with ⟨ks, h1⟩ | ⟨r1, il, i, len, v, hr1, hil, hlk, ⟨cd, f', hs, hc, h1⟩ | ⟨mi', r', as, rest, u, h', hcall, hr', hfit, hRc, h1⟩ | ⟨cd, u, hret, hc, he⟩⟩
    · exact ih h1
    · exact ih h1
    · exact ih h1
    · have hu : u = some (.inr (.inr k)) := (congrArg Prod.fst he).symm
      subst hu
      unfold jm_ret at hret
      split at hret <;> cases hret
set_option maxHeartbeats 4000000 in
theorem jm_run_W : ∀ n : Nat, jm_RW n := by
  intro n
  induction n with
  | zero => intro mi r f out hr h; exact h.elim
  | succ n ih =>
    intro mi r f out hr hRn D A ad cs p l e s m args below meth c H locs ls hF hf
    obtain ⟨hl, hol, hos, hP, hD, hS⟩ := id hf
    rcases hRn with ⟨ks, h1⟩ | ⟨r1, il, i, len, v, hr1, hil, hlk, h1⟩
    · refine ih mi r _ out hr h1 D A ad cs p l e s m args below meth c H locs ls hF ⟨lv_sub hl ks ?_, fun q hq => ?_, hos, hP, hD, hS⟩
      · simp only [lv_pick, jm_pick, jm_cvl, List.map_filterMap, List.getElem?_map]
      · obtain ⟨k, -, hk⟩ := List.mem_filterMap.mp hq
        exact hol q (List.mem_of_getElem? hk)
    · obtain rfl : r1 = r := Option.some.inj (hr1.symm.trans hr)
      have hz : (il, r1) ∈ jm_is.zip jm_mt := jm_in_of hr hil
      have hm := jm_lookup_mem hlk
      have h2 := List.all_eq_true.mp (List.all_eq_true.mp jm_is_all _ hz) _ hm
      have h3 := List.all_eq_true.mp (List.all_eq_true.mp jm_lib_ok _ hz) _ hm
      have h4 := List.all_eq_true.mp (List.all_eq_true.mp jm_loc_ok _ hz) _ hm
      unfold jm_inok at h2
      simp only [Bool.and_eq_true, Bool.or_eq_true, decide_eq_true_eq] at h2
      obtain ⟨⟨⟨hd, hn⟩, ho⟩, hv⟩ := h2
      rcases h1 with ⟨cd, f', hs, hc, hRn⟩ | ⟨mi', r', as, rest, u, h', hcall, hr', hfit, hRc, hRn⟩ | ⟨cd, u, hret, hc, rfl⟩
      · refine jm_step_W hF hd hn ho hv ?_ hf hs hc ?_ (fun ls' H' locs' hf' => ih mi r1 f' out hr hRn D A ad cs p l e s m args below meth c H' locs' ls' hF hf')
        · intro idx hi
          subst hi
          simp only [Bool.or_eq_true, Bool.and_eq_true, decide_eq_true_eq] at h3
          exact h3
        · intro k hk
          dsimp only at h4
          rw [hk] at h4
          exact of_decide_eq_true h4
      · have hlen : len = 3 := by
          have hi : (∃ idx, i = .invokestatic idx) ∨ (∃ idx, i = .invokespecial idx) ∨ ∃ idx, i = .invokevirtual idx := by
            unfold jm_call at hcall
            split at hcall
            · exact Or.inl ⟨_, rfl⟩
            · exact Or.inr (Or.inl ⟨_, rfl⟩)
            · exact Or.inr (Or.inr ⟨_, rfl⟩)
            · cases hcall
          rcases hi with ⟨idx, rfl⟩ | ⟨idx, rfl⟩ | ⟨idx, rfl⟩ <;> simpa [jm_len, jm_sw] using hn
        subst hlen
        have hfit2 := hfit
        unfold jm_fit at hfit2
        simp only [Bool.and_eq_true, decide_eq_true_eq] at hfit2
        obtain ⟨hrun, hor⟩ := jm_call_W (below := below) (locs := locs) (l := l) (e := e) (out := (u, h')) hcall hr' hfit hF hd hos (fun hoa => jm_met ih hr' hRc hoa hfit2.2 l D A ad cs) hl.1 hP hD
        refine jm_cont hrun hS (fun H1 locs1 hP1 hD1 hS1 => ?_)
        have hq := ih mi r1 (f.1 + 3, f.2.1, u.toList ++ rest, h') out hr hRn D A ad cs p l e s m args below meth c H1 locs1 ls hF ⟨hl, hol, ?_, hP1, hD1, hS1⟩
        · dsimp only at hq
          rw [List.map_append] at hq
          exact hq
        · intro v hv
          rcases List.mem_append.mp hv with q | q
          · rcases u with _ | x | x | x
            · cases q
            · rw [List.mem_singleton.mp q]; trivial
            · rw [List.mem_singleton.mp q]; trivial
            · exfalso
              exact jm_noref hRc
          · exact hor v q
      · exact jm_ret_W hret hc hF hd hn hP hD hS
