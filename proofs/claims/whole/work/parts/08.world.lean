/-! THE SMALL MACHINE over the real one: how a memory stands in a heap. -/
def jm_up : List (List Nat) := [[], [175, 177, 179, 181, 183, 185, 187, 189, 191, 193, 195, 197, 199, 201, 203], [], [], [], [224, 226, 228, 230, 232, 234], [], [], [], [], [244, 246, 248, 250, 252, 254, 256], [1008, 1010, 1012, 1014, 1016, 1018, 1020, 1022, 1024, 1026, 1028, 1030, 1032, 1034, 1036, 1038, 1040, 1042]]
set_option maxRecDepth 100000 in
theorem jm_up_ok : (jm_cl0.zip jm_up).all (fun q => ((u_ws q.1.1 q.1.2.1 q.1.2.2).zip q.2).all (fun z => jm_at z.2 z.1) && decide ((u_ws q.1.1 q.1.2.1 q.1.2.2).length = q.2.length)) = true := by decide +kernel
theorem jm_uws {ci : Nat} {q : vw_C} (h : jm_cl0[ci]? = some q) : ∀ w ∈ u_ws q.1 q.2.1 q.2.2, w ∈ jm_T := by
  intro w hw
  have hlt : ci < jm_cl0.length := (List.getElem?_eq_some_iff.mp h).1
  have hl : jm_cl0.length = jm_up.length := rfl
  have hz : (q, jm_up[ci]'(hl ▸ hlt)) ∈ jm_cl0.zip jm_up := List.mem_iff_getElem.mpr ⟨ci, by rw [List.length_zip, ← hl, Nat.min_self]; exact hlt, by rw [List.getElem_zip, (List.getElem?_eq_some_iff.mp h).2]⟩
  have h1 := List.all_eq_true.mp jm_up_ok _ hz
  simp only [Bool.and_eq_true, decide_eq_true_eq] at h1
  obtain ⟨k, hk, rfl⟩ := List.mem_iff_getElem.mp hw
  have h2 := List.all_eq_true.mp h1.1 ((u_ws q.1 q.2.1 q.2.2)[k], (jm_up[ci]'(hl ▸ hlt))[k]'(h1.2 ▸ hk)) (List.mem_iff_getElem.mpr ⟨k, by simp; omega, by simp⟩)
  exact jm_at_T h2
def jm_cv (ad : jm_K → Nat) : jm_V → Value
  | .inl x => .int x
  | .inr (.inl x) => .long x
  | .inr (.inr c) => .ref (ad c)
theorem jm_cv_cat (ad : jm_K → Nat) (v : jm_V) : (jm_cv ad v).category = jm_cat v := by
  rcases v with x | x | x <;> rfl
def jm_cvl (ad : jm_K → Nat) (L : jm_L) : List (Nat × Value) := L.map (fun q => (q.1, jm_cv ad q.2))
theorem jm_cvl_put1 (ad : jm_K → Nat) (i : Nat) (v : jm_V) (L : jm_L) : (i, jm_cv ad v) :: (jm_cvl ad L).filter (fun q => !(q.1 == i) && !(q.1 + 1 == i && q.2.category == 2)) = jm_cvl ad (jm_put1 i v L) := by
  simp only [jm_cvl, jm_put1, List.map_cons, List.filter_map]
  congr 2
  refine congrArg (fun z => List.filter z L) (funext fun q => ?_)
  simp only [Function.comp, jm_cv_cat]
theorem jm_cvl_put2 (ad : jm_K → Nat) (i : Nat) (v : jm_V) (L : jm_L) : (i, jm_cv ad v) :: (jm_cvl ad L).filter (fun q => !(q.1 == i) && (!(q.1 == i + 1) && !(q.1 + 1 == i && q.2.category == 2))) = jm_cvl ad (jm_put2 i v L) := by
  simp only [jm_cvl, jm_put2, List.map_cons, List.filter_map]
  congr 2
  refine congrArg (fun z => List.filter z L) (funext fun q => ?_)
  simp only [Function.comp, jm_cv_cat]
theorem jm_lookup_mem {β : Type} {L : List (Nat × β)} {i : Nat} {v : β} (h : L.lookup i = some v) : (i, v) ∈ L := by
  induction L with
  | nil => simp at h
  | cons q t ih =>
    rw [List.lookup_cons] at h
    by_cases hq : i = q.1
    · have h1 : (i == q.1) = true := by simp [hq]
      rw [h1] at h
      simp at h
      exact List.mem_cons.mpr (Or.inl (by rw [← h, hq]))
    · have h1 : (i == q.1) = false := by simp [hq]
      rw [h1] at h
      exact List.mem_cons.mpr (Or.inr (ih h))
theorem jm_lookup_lv {ad : jm_K → Nat} {L : jm_L} {ls : Array Slot} {nL i : Nat} {v : jm_V} (hl : lv_has ls nL (jm_cvl ad L)) (h : L.lookup i = some v) : ls[i]? = some (.val (jm_cv ad v)) :=
  hl.2.2 (i, jm_cv ad v) (List.mem_map.mpr ⟨(i, v), jm_lookup_mem h, rfl⟩)
/-- what a slot of an object holds, and all of them -/
def jm_slot (ad : jm_K → Nat) (f : Nat → Int32) (fs : List (Option jm_K)) (k : Nat) : Value := match fs[k]? with
  | some (some q) => .ref (ad q)
  | _ => .int (f k)
def jm_fs (ad : jm_K → Nat) (f : Nat → Int32) (fs : List (Option jm_K)) : List Value := (List.range fs.length).map (jm_slot ad f fs)
theorem jm_fs_len (ad : jm_K → Nat) (f : Nat → Int32) (fs : List (Option jm_K)) : (jm_fs ad f fs).length = fs.length := by simp [jm_fs]
theorem jm_fs_get (ad : jm_K → Nat) (f : Nat → Int32) (fs : List (Option jm_K)) {k : Nat} (hk : k < fs.length) : (jm_fs ad f fs)[k]? = some (jm_slot ad f fs k) := by
  simp [jm_fs, List.getElem?_map, List.getElem?_range hk]
theorem jm_slot_up (ad : jm_K → Nat) (f : Nat → Int32) (fs : List (Option jm_K)) {k j : Nat} (v : Int32) (hj : ¬ j = k) : jm_slot ad (upd f k v) fs j = jm_slot ad f fs j := by
  have : upd f k v j = f j := by simp [upd, hj]
  simp only [jm_slot, this]
theorem jm_fs_set (ad : jm_K → Nat) (f : Nat → Int32) (fs : List (Option jm_K)) {k : Nat} (v : Int32) (hk : fs[k]? = some none) : (jm_fs ad f fs).set k (.int v) = jm_fs ad (upd f k v) fs := by
  have hlt : k < fs.length := (List.getElem?_eq_some_iff.mp hk).1
  apply List.ext_getElem?
  intro j
  rw [List.getElem?_set]
  by_cases hj : k = j
  · subst hj
    rw [if_pos rfl, if_pos (by rw [jm_fs_len]; exact hlt), jm_fs_get ad (upd f k v) fs hlt]
    simp [jm_slot, hk, upd]
  · rw [if_neg hj]
    by_cases hjl : j < fs.length
    · rw [jm_fs_get ad f fs hjl, jm_fs_get ad (upd f k v) fs hjl, jm_slot_up ad f fs v (fun h => hj h.symm)]
    · rw [List.getElem?_eq_none (by rw [jm_fs_len]; omega), List.getElem?_eq_none (by rw [jm_fs_len]; omega)]
/-- a cell of the world -/
def jm_E (ad : jm_K → Nat) (cs : Nat → ClassId) (sh : Option jm_SH) (f : Nat → Int32) : va_E := match sh with
  | some (.inl (ci, fs)) => .inr (ci, jm_fs ad f fs)
  | some (.inr (.inl n)) => .inl (cs 0, n, .inl f)
  | some (.inr (.inr (t, n, g))) => .inl (cs t, n, .inr (.inr (.inr (.inr (fun i => some (ad (g i)))))))
  | none => .inl (cs 0, 0, .inl f)
def jm_ws (ad : jm_K → Nat) (cs : Nat → ClassId) (h : jm_M) : va_W := jm_ks.map (fun c => (ad c, jm_E ad cs (jm_sh c) (h c)))
def jm_ty (cs : Nat → ClassId) : List (ClassId × FieldType) := [(cs 0, .int), (cs 1, .object "PapersAreOnCats$Cat"), (cs 2, .object "PapersAreOnCats$Shelf")]
set_option maxRecDepth 100000 in
theorem jm_ks_nd : jm_ks.Nodup := by decide +kernel
theorem jm_nd_inj {α : Type} {l : List α} (hn : l.Nodup) {i j : Nat} (hi : i < l.length) (hj : j < l.length) (h : l[i] = l[j]) : i = j := by
  rcases Nat.lt_trichotomy i j with q | q | q
  · exact absurd h (List.pairwise_iff_getElem.mp hn i j hi hj q)
  · exact q
  · exact absurd h.symm (List.pairwise_iff_getElem.mp hn j i hj hi q)
theorem jm_ws_get {ad : jm_K → Nat} {cs : Nat → ClassId} {h : jm_M} {c : jm_K} (hc : c ∈ jm_ks) : ∃ q0 : Nat, jm_ks[q0]? = some c ∧ (jm_ws ad cs h)[q0]? = some (ad c, jm_E ad cs (jm_sh c) (h c)) := by
  obtain ⟨k, hk⟩ := List.mem_iff_getElem?.mp hc
  exact ⟨k, hk, by simp [jm_ws, List.getElem?_map, hk]⟩
theorem jm_ws_set {ad : jm_K → Nat} {cs : Nat → ClassId} {h : jm_M} {c : jm_K} {q0 : Nat} (hq : jm_ks[q0]? = some c) (f : Nat → Int32) : (jm_ws ad cs h).set q0 (ad c, jm_E ad cs (jm_sh c) f) = jm_ws ad cs (jm_set h c f) := by
  apply List.ext_getElem?
  intro j
  have hlt : q0 < jm_ks.length := (List.getElem?_eq_some_iff.mp hq).1
  rw [List.getElem?_set]
  by_cases hj : q0 = j
  · subst hj
    rw [if_pos rfl, if_pos (by simp only [jm_ws, List.length_map]; exact hlt)]
    simp only [jm_ws, List.getElem?_map, hq, Option.map_some, jm_set, if_pos]
  · rw [if_neg hj]
    simp only [jm_ws, List.getElem?_map]
    cases hjk : jm_ks[j]? with
    | none => rfl
    | some c2 =>
      have hne : ¬ c2 = c := by
        intro he
        subst he
        obtain ⟨l1, e1⟩ := List.getElem?_eq_some_iff.mp hq
        obtain ⟨l2, e2⟩ := List.getElem?_eq_some_iff.mp hjk
        exact hj (jm_nd_inj jm_ks_nd l1 l2 (e1.trans e2.symm))
      simp only [Option.map_some, jm_set, if_neg hne]
/-- all cells that the values name are there -/
def jm_okv (v : jm_V) : Prop := match v with
  | .inr (.inr c) => c ∈ jm_ks
  | _ => True
def jm_oks (st : List jm_V) : Prop := ∀ v ∈ st, jm_okv v
def jm_okl (L : jm_L) : Prop := ∀ q ∈ L, jm_okv q.2
/-- an object's own cells are there, where it is there; a row's too -/
def jm_clo (c : jm_K) : Bool := match jm_sh c with
  | some (.inl (_, fs)) => fs.all (fun q => match q with
    | some d => decide (d ∈ jm_ks)
    | none => true)
  | some (.inr (.inr (_, n, g))) => (List.range n).all (fun i => decide (g i ∈ jm_ks))
  | _ => true
set_option maxRecDepth 100000 in
theorem jm_clo_ok : jm_ks.all jm_clo = true := by decide +kernel
/-- the classes of the objects: a number of the list; their slots in number; an int slot is no final one, and of type int or boolean -/
def jm_sho (c : jm_K) : Bool := match jm_sh c with
  | some (.inl (ci, fs)) => (match jm_cl0[ci]? with
    | some q => decide (q.2.2 = fs.length) && (List.range fs.length).all (fun k => match fs[k]? with
      | some none => decide ((q.2.1 k).2.2.2 = false) && decide (parseFieldDescriptor (q.2.1 k).2.2.1 = some (if jm_bo ci k = true then FieldType.boolean else FieldType.int))
      | _ => true)
    | none => false)
  | some (.inr (.inl n)) => decide (n < 2147483648)
  | some (.inr (.inr (t, n, _))) => (t == 1 || t == 2) && decide (n < 2147483648)
  | none => false
set_option maxRecDepth 100000 in
theorem jm_sho_ok : jm_ks.all jm_sho = true := by decide +kernel
def jm_Wd (D : va_G) (A : Nat → Prop) (ad : jm_K → Nat) (cs : Nat → ClassId) (h : jm_M) (U : State) : Prop := va_P D jm_cl0 (jm_ws ad cs h) U.heap ∧ va_K D jm_cl0 (jm_ty cs) U ∧ va_D A (jm_ws ad cs h) ∧ ∀ w ∈ jm_N, va_Nw w U
/-- the contract's end, by what the small machine returned -/
def jm_Q (D : va_G) (A : Nat → Prop) (ad : jm_K → Nat) (cs : Nat → ClassId) (out : Option jm_V × jm_M) : Array Value → State → Outcome → State → Prop := match out.1 with
  | none => va_Qv (fun u : jm_M => u = out.2) (jm_Wd D A ad cs) A
  | some (.inl x) => va_Qi (fun (r : Int32) (u : jm_M) => r = x ∧ u = out.2) (jm_Wd D A ad cs) A
  | some (.inr (.inl x)) => va_Ql (fun (r : Int64) (u : jm_M) => r = x ∧ u = out.2) (jm_Wd D A ad cs) A
  | some (.inr (.inr _)) => fun _ _ _ _ => False
