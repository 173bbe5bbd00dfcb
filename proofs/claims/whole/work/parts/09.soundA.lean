/-! THE SMALL MACHINE over the real one: a step of it is steps of the machine. -/
set_option maxRecDepth 100000 in
theorem jm_lib_ok : (jm_is.zip jm_mt).all (fun q => q.1.all (fun z => match z.2.1 with
  | .invokestatic idx => ((jm_lk jm_acp q.2.2.2.2.2.2.2 idx).isNone && (jm_lk jm_mth q.2.2.2.2.2.2.2 idx).isNone) || (decide (1 ≤ q.2.2.2.2.2.1) && decide (26 ≤ q.2.2.2.2.2.2.1))
  | _ => true)) = true := by decide +kernel
def jm_R (r : jm_MT) : Room := { frames := r.2.2.2.2.1, cells := 0, slots := 0, locals := r.2.2.2.2.2.1 }
def jm_Fx (D : va_G) (cs : Nat → ClassId) (r : jm_MT) (p : Program) (s : State) (m : MethodId) (args : Array Value) (meth : Method) (c : Code) : Prop :=
  p.tables.exec = Jvm.exec ∧ c.code = r.2.1 ∧ c.maxLocals = r.2.2.1 ∧ s.vm.findClass r.1.cls = some m.cls ∧ (∀ w ∈ jm_T, w.before args s = true) ∧ va_K D jm_cl0 (jm_ty cs) s ∧ (∀ w ∈ jm_N, va_Nw w s) ∧ meth.sig.returnType = r.2.2.2.1 ∧ meth.locks = false ∧ jm_on[r.2.2.2.2.2.2]? = some r.1.cls
def jm_Fr (D : va_G) (A : Nat → Prop) (ad : jm_K → Nat) (cs : Nat → ClassId) (H0 : Heap) (nL : Nat) (f : jm_F) (ls : Array Slot) (H : Heap) (locs : List Loc) : Prop :=
  lv_has ls nL (jm_cvl ad f.2.1) ∧ jm_okl f.2.1 ∧ jm_oks f.2.2.1 ∧ va_P D jm_cl0 (jm_ws ad cs f.2.2.2) H ∧ va_D A (jm_ws ad cs f.2.2.2) ∧ va_S A H0 H locs
theorem jm_ld_spec {w i n : Nat} {f f' : jm_F} {c : Option Prop} (h : jm_ld w i n f = some (c, f')) : ∃ v, f.2.1.lookup i = some v ∧ c = none ∧ f' = (f.1 + n, f.2.1, v :: f.2.2.1, f.2.2.2) ∧ ((w = 0 ∧ ∃ x, v = .inl x) ∨ (w = 1 ∧ ∃ x, v = .inr (.inl x)) ∨ (w = 2 ∧ ∃ x, v = .inr (.inr x))) := by
  unfold jm_ld at h
  split at h
  · rename_i x hx; cases h; exact ⟨_, hx, rfl, rfl, Or.inl ⟨rfl, _, rfl⟩⟩
  · rename_i x hx; cases h; exact ⟨_, hx, rfl, rfl, Or.inr (Or.inl ⟨rfl, _, rfl⟩)⟩
  · rename_i x hx; cases h; exact ⟨_, hx, rfl, rfl, Or.inr (Or.inr ⟨rfl, _, rfl⟩)⟩
  · cases h
theorem jm_sto_spec {w i n : Nat} {f f' : jm_F} {c : Option Prop} (h : jm_sto w i n f = some (c, f')) : ∃ v st, f.2.2.1 = v :: st ∧ c = none ∧ ((w = 0 ∧ (∃ x, v = .inl x) ∧ f' = (f.1 + n, jm_put1 i v f.2.1, st, f.2.2.2)) ∨ (w = 1 ∧ (∃ x, v = .inr (.inl x)) ∧ f' = (f.1 + n, jm_put2 i v f.2.1, st, f.2.2.2)) ∨ (w = 2 ∧ (∃ x, v = .inr (.inr x)) ∧ f' = (f.1 + n, jm_put1 i v f.2.1, st, f.2.2.2))) := by
  unfold jm_sto at h
  split at h
  · rename_i x st hx; cases h; exact ⟨_, _, hx, rfl, Or.inl ⟨rfl, ⟨_, rfl⟩, rfl⟩⟩
  · rename_i x st hx; cases h; exact ⟨_, _, hx, rfl, Or.inr (Or.inl ⟨rfl, ⟨_, rfl⟩, rfl⟩)⟩
  · rename_i x st hx; cases h; exact ⟨_, _, hx, rfl, Or.inr (Or.inr ⟨rfl, ⟨_, rfl⟩, rfl⟩)⟩
  · cases h
theorem jm_ii_spec {g : Int32 → Int32 → Int32} {q : Int32 → Option Prop} {f f' : jm_F} {c : Option Prop} (h : jm_ii g q f = some (c, f')) : ∃ x y st, f.2.2.1 = .inl y :: .inl x :: st ∧ c = q y ∧ f' = (f.1 + 1, f.2.1, .inl (g x y) :: st, f.2.2.2) := by
  unfold jm_ii at h
  split at h
  · rename_i y x st hx; cases h; exact ⟨_, _, _, hx, rfl, rfl⟩
  · cases h
theorem jm_ll_spec {g : Int64 → Int64 → Int64} {q : Int64 → Option Prop} {f f' : jm_F} {c : Option Prop} (h : jm_ll g q f = some (c, f')) : ∃ x y st, f.2.2.1 = .inr (.inl y) :: .inr (.inl x) :: st ∧ c = q y ∧ f' = (f.1 + 1, f.2.1, .inr (.inl (g x y)) :: st, f.2.2.2) := by
  unfold jm_ll at h
  split at h
  · rename_i y x st hx; cases h; exact ⟨_, _, _, hx, rfl, rfl⟩
  · cases h
theorem jm_u1_spec {g : Int32 → Int32} {f f' : jm_F} {c : Option Prop} (h : jm_u1 g f = some (c, f')) : ∃ x st, f.2.2.1 = .inl x :: st ∧ c = none ∧ f' = (f.1 + 1, f.2.1, .inl (g x) :: st, f.2.2.2) := by
  unfold jm_u1 at h
  split at h
  · rename_i x st hx; cases h; exact ⟨_, _, hx, rfl, rfl⟩
  · cases h
theorem jm_oks_tail {v : jm_V} {st : List jm_V} (h : jm_oks (v :: st)) : jm_oks st := fun w hw => h w (List.mem_cons_of_mem _ hw)
theorem jm_oks_head {v : jm_V} {st : List jm_V} (h : jm_oks (v :: st)) : jm_okv v := h v List.mem_cons_self
theorem jm_oks_cons {v : jm_V} {st : List jm_V} (hv : jm_okv v) (h : jm_oks st) : jm_oks (v :: st) := fun w hw => (List.mem_cons.mp hw).elim (fun e => e ▸ hv) (h w)
theorem jm_okl_put1 {i : Nat} {v : jm_V} {L : jm_L} (hv : jm_okv v) (h : jm_okl L) : jm_okl (jm_put1 i v L) := fun q hq => (List.mem_cons.mp hq).elim (fun e => by rw [e]; exact hv) (fun e => h q (List.mem_filter.mp e).1)
theorem jm_okl_put2 {i : Nat} {v : jm_V} {L : jm_L} (hv : jm_okv v) (h : jm_okl L) : jm_okl (jm_put2 i v L) := fun q hq => (List.mem_cons.mp hq).elim (fun e => by rw [e]; exact hv) (fun e => h q (List.mem_filter.mp e).1)
theorem jm_okl_get {i : Nat} {v : jm_V} {L : jm_L} (h : jm_okl L) (hl : L.lookup i = some v) : jm_okv v := h (i, v) (jm_lookup_mem hl)
theorem jm_tgt {pc : Nat} {o : Int} (h : 0 ≤ (pc : Int) + o) : (pc : Int) + o = ((jm_tg pc o : Nat) : Int) := (Int.toNat_of_nonneg h).symm
theorem jm_lk_mem {α : Type} {t : List (List (Nat × α))} {own idx : Nat} {v : α} (h : jm_lk t own idx = some v) : ∃ l, t[own]? = some l ∧ (idx, v) ∈ l := by
  unfold jm_lk at h
  split at h
  · rename_i l hl; exact ⟨l, hl, jm_lookup_mem h⟩
  · cases h
theorem jm_lk_all {α : Type} {t : List (List (Nat × α))} {own idx : Nat} {v : α} {N : String} {P : String → Nat × α → Bool} (ht : (t.zip jm_on).all (fun q => q.1.all (P q.2)) = true) (ho : jm_on[own]? = some N) (h : jm_lk t own idx = some v) : P N (idx, v) = true := by
  obtain ⟨l, hl, hm⟩ := jm_lk_mem h
  have hz : (l, N) ∈ t.zip jm_on := by
    refine List.mem_iff_getElem?.mpr ⟨own, ?_⟩
    rw [List.getElem?_zip_eq_some]
    exact ⟨hl, ho⟩
  exact List.all_eq_true.mp (List.all_eq_true.mp ht _ hz) _ hm
section JMS
variable {p : Program} {l : Launch} {e : Env} {s : State} {m : MethodId} {args : Array Value} {below : List Frame} {meth : Method} {c : Code} {H : Heap} {locs : List Loc} {Q : State → Prop}
variable {D : va_G} {A : Nat → Prop} {ad : jm_K → Nat} {cs : Nat → ClassId} {H0 : Heap} {r : jm_MT} {ls : Array Slot}

theorem jm_ts_spec (pc : Nat) (d : Int) (x : Int32) (offs : List Int) : ∀ (os : List Int) (k : Int) (i : Nat), os = offs.drop i → -2147483648 ≤ k → k + (os.length : Int) ≤ 2147483648 →
    (x.toInt < k ∨ k + (os.length : Int) ≤ x.toInt → jm_ts pc d x k os = jm_tg pc d) ∧ (k ≤ x.toInt → x.toInt < k + (os.length : Int) → ∃ o, offs[i + (x.toInt - k).toNat]? = some o ∧ jm_ts pc d x k os = jm_tg pc o) := by
  intro os
  induction os with
  | nil =>
    intro k i _ _ _
    exact ⟨fun _ => rfl, fun h1 h2 => absurd h2 (by simp; omega)⟩
  | cons o t ih =>
    intro k i hi hk1 hk2
    have hlen : ((o :: t).length : Int) = (t.length : Int) + 1 := by simp
    have hkI : (Int32.ofInt k).toInt = k := by
      rw [Int32.toInt_ofInt]
      refine Int.bmod_eq_of_le ?_ ?_ <;> (simp [Int32.size]; omega)
    have hxk : x = Int32.ofInt k ↔ x.toInt = k := by
      constructor
      · intro h; rw [h, hkI]
      · intro h; apply Int32.toInt_inj.mp; rw [hkI, h]
    have ht : t = offs.drop (i + 1) := by
      rw [← List.drop_drop, ← hi]; rfl
    have h0 : offs[i]? = some o := by
      have := congrArg (fun z => z[0]?) hi
      simpa using this.symm
    obtain ⟨ih1, ih2⟩ := ih (k + 1) (i + 1) ht (by omega) (by rw [hlen] at hk2; omega)
    constructor
    · intro h
      have hne : ¬ x = Int32.ofInt k := fun q => by rw [hxk] at q; rw [hlen] at h; omega
      simp only [jm_ts, if_neg hne]
      exact ih1 (by rw [hlen] at h; omega)
    · intro h1 h2
      by_cases hx : x = Int32.ofInt k
      · refine ⟨o, ?_, by simp only [jm_ts, if_pos hx]⟩
        rw [hxk] at hx
        rw [hx, Int.sub_self]
        exact h0
      · have hne : ¬ x.toInt = k := fun q => hx (hxk.mpr q)
        obtain ⟨o2, g1, g2⟩ := ih2 (by omega) (by rw [hlen] at h2; omega)
        refine ⟨o2, ?_, by simp only [jm_ts, if_neg hx]; exact g2⟩
        rw [← g1]
        congr 1
        omega
theorem jm_ls_spec (pc : Nat) (d : Int) (x : Int32) (ps : List (Int × Int)) (h : ∀ q ∈ ps, -2147483648 ≤ q.1 ∧ q.1 ≤ 2147483647) : jm_ls pc d x ps = jm_tg pc (Op.lookupswitch.offset ps d x.toInt) := by
  induction ps with
  | nil => rfl
  | cons q t ih =>
    have hq := h q List.mem_cons_self
    have hkI : (Int32.ofInt q.1).toInt = q.1 := by
      rw [Int32.toInt_ofInt]
      refine Int.bmod_eq_of_le ?_ ?_ <;> (simp [Int32.size]; omega)
    have hxk : x = Int32.ofInt q.1 ↔ x.toInt = q.1 := by
      constructor
      · intro h; rw [h, hkI]
      · intro h; apply Int32.toInt_inj.mp; rw [hkI, h]
    obtain ⟨a, b⟩ := q
    rw [jm_ls, Op.lookupswitch.offset_cons, ih (fun z hz => h z (List.mem_cons_of_mem _ hz))]
    by_cases hx : x = Int32.ofInt a
    · rw [if_pos hx, if_pos (hxk.mp hx).symm]
    · rw [if_neg hx, if_neg (fun q => hx (hxk.mpr q.symm))]
end JMS
