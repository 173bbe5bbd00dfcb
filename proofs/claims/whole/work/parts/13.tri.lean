/-! THE SMALL MACHINE: what holds at a method's end, and the rows by which its code is walked. -/
def jt_T (mi : Nat) (f : jm_F) (Q : Option jm_V → jm_M → Prop) : Prop := ∃ (n : Nat) (u : Option jm_V) (h : jm_M), jm_Rn n mi f (u, h) ∧ Q u h
theorem jm_Rn_succ : ∀ {n mi : Nat} {f : jm_F} {out : Option jm_V × jm_M}, jm_Rn n mi f out → jm_Rn (n + 1) mi f out := by
  intro n
  induction n with
  | zero => intro mi f out h; exact h.elim
  | succ n ih =>
    intro mi f out hR
    rcases hR with ⟨ks, h1⟩ | ⟨r1, il, i, len, v, hr1, hil, hlk, ⟨cd, f', hs, hc, h1⟩ | ⟨mi', r', as, rest, u, h', hcall, hr', hfit, hRc, h1⟩ | h1⟩
    · exact Or.inl ⟨ks, ih h1⟩
    · exact Or.inr ⟨r1, il, i, len, v, hr1, hil, hlk, Or.inl ⟨cd, f', hs, hc, ih h1⟩⟩
    · exact Or.inr ⟨r1, il, i, len, v, hr1, hil, hlk, Or.inr (Or.inl ⟨mi', r', as, rest, u, h', hcall, hr', hfit, ih hRc, ih h1⟩)⟩
    · exact Or.inr ⟨r1, il, i, len, v, hr1, hil, hlk, Or.inr (Or.inr h1)⟩
theorem jm_Rn_le {n k mi : Nat} {f : jm_F} {out : Option jm_V × jm_M} (hk : n ≤ k) (h : jm_Rn n mi f out) : jm_Rn k mi f out := by
  induction hk with
  | refl => exact h
  | step _ ih => exact jm_Rn_succ ih
theorem jt_mono {mi : Nat} {f : jm_F} {Q Q' : Option jm_V → jm_M → Prop} (h : jt_T mi f Q) (hq : ∀ u h, Q u h → Q' u h) : jt_T mi f Q' := by
  obtain ⟨n, u, m, h1, h2⟩ := h
  exact ⟨n, u, m, h1, hq u m h2⟩
/-- what is used of a method's row: its instructions, its owner, what it returns, frames, words, locals -/
def jm_Me (mi own : Nat) (il : List jm_IT) (ret : Option FieldType) (fr lo mx : Nat) : Prop := jm_is[mi]? = some il ∧ ∃ r : jm_MT, jm_mt[mi]? = some r ∧ r.2.2.2.2.2.2 = own ∧ r.2.2.2.1 = ret ∧ r.2.2.2.2.1 = fr ∧ r.2.2.2.2.2.1 = lo ∧ r.2.2.1 = mx
def jm_srt : List jm_IT → Bool
  | q1 :: q2 :: t => Nat.blt q1.1 q2.1 && jm_srt (q2 :: t)
  | _ => true
set_option maxRecDepth 100000 in
theorem jm_srt_ok : jm_is.all jm_srt = true := by decide +kernel
theorem jm_srt_lt : ∀ (l : List jm_IT) (q0 : jm_IT), jm_srt (q0 :: l) = true → ∀ q ∈ l, q0.1 < q.1 := by
  intro l
  induction l with
  | nil => intro q0 _ q hq; cases hq
  | cons q1 t ih =>
    intro q0 h q hq
    simp only [jm_srt, Bool.and_eq_true] at h
    have h1 : q0.1 < q1.1 := by have := h.1; simp [Nat.blt] at this; omega
    rcases List.mem_cons.mp hq with rfl | hq
    · exact h1
    · exact Nat.lt_trans h1 (ih q1 h.2 q hq)
theorem jm_srt_tail {q0 : jm_IT} {l : List jm_IT} (h : jm_srt (q0 :: l) = true) : jm_srt l = true := by
  cases l with
  | nil => rfl
  | cons q1 t => simp only [jm_srt, Bool.and_eq_true] at h; exact h.2
theorem jm_srt_get : ∀ (a : Nat) (il : List jm_IT) (q : jm_IT), jm_srt il = true → il[a]? = some q → il.lookup q.1 = some q.2 := by
  intro a
  induction a with
  | zero =>
    intro il q _ h
    cases il with
    | nil => simp at h
    | cons q0 l =>
      simp only [List.getElem?_cons_zero, Option.some.injEq] at h
      subst h
      simp [List.lookup]
  | succ a ih =>
    intro il q hs h
    cases il with
    | nil => simp at h
    | cons q0 l =>
      rw [List.getElem?_cons_succ] at h
      have h1 := jm_srt_lt l q0 hs q (List.mem_of_getElem? h)
      have h2 : (q.1 == q0.1) = false := by simp; omega
      rw [List.lookup_cons, h2]
      exact ih l q (jm_srt_tail hs) h
theorem jm_Me_lk {mi own : Nat} {il : List jm_IT} {ret : Option FieldType} {fr lo mx a : Nat} {q : jm_IT} (hm : jm_Me mi own il ret fr lo mx) (h : il[a]? = some q) : il.lookup q.1 = some q.2 :=
  jm_srt_get a il q (List.all_eq_true.mp jm_srt_ok il (List.mem_of_getElem? hm.1)) h
/-- k instructions that stand one behind the other -/
def jm_go (own : Nat) : List jm_IT → Nat → jm_F → Option (Prop × jm_F)
  | _, 0, f => some (True, f)
  | [], _ + 1, _ => none
  | q :: t, k + 1, f => match Nat.beq q.1 f.1, jm_step own q.2.1 q.2.2.1 q.2.2.2 f with
    | true, some (none, f') => jm_go own t k f'
    | true, some (some p, f') => (match jm_go own t k f' with
      | some (P, f'') => some (p ∧ P, f'')
      | none => none)
    | _, _ => none
section JMT
variable {mi own fr lo mx pc nxt tgt : Nat} {il : List jm_IT} {ret : Option FieldType} {Q Q' : Option jm_V → jm_M → Prop} {L L' : jm_L} {st : List jm_V} {h : jm_M} {v : Int32} {x y : Int32} {o : Int}
theorem jt_step1 (hm : jm_Me mi own il ret fr lo mx) {a len : Nat} {i : Instr} (hq : il[a]? = some (pc, i, len, v)) {c : Option Prop} {f' : jm_F} (hs : jm_step own i len v (pc, L, st, h) = some (c, f')) (hc : jm_hold c) (k : jt_T mi f' Q) : jt_T mi (pc, L, st, h) Q := by
  obtain ⟨n, u, m, h1, h2⟩ := k
  have hlk := jm_Me_lk hm hq
  obtain ⟨hil, r, hr, rfl, -⟩ := hm
  exact ⟨n + 1, u, m, Or.inr ⟨r, il, i, len, v, hr, hil, hlk, Or.inl ⟨c, f', hs, hc, h1⟩⟩, h2⟩
theorem jt_goA (hm : jm_Me mi own il ret fr lo mx) : ∀ (k a : Nat) (f f' : jm_F) (P : Prop), jm_go own (il.drop a) k f = some (P, f') → P → jt_T mi f' Q → jt_T mi f Q := by
  intro k
  induction k with
  | zero =>
    intro a f f' P hg hP hT
    have e : some (True, f) = some (P, f') := by
      rw [← hg]
      cases il.drop a <;> rfl
    cases e
    exact hT
  | succ k ih =>
    intro a f f' P hg hP hT
    cases hd : il.drop a with
    | nil => rw [hd] at hg; cases hg
    | cons q t =>
      have hget : il[a]? = some q := by
        have := congrArg List.head? hd
        rwa [List.head?_drop] at this
      have ht : il.drop (a + 1) = t := by
        rw [← List.drop_drop, hd]; rfl
      rw [hd] at hg
      unfold jm_go at hg
      split at hg
      · rename_i g' hb hs
        have hpc : q.1 = f.1 := Nat.eq_of_beq_eq_true hb
        obtain ⟨qa, qb, qc, qd⟩ := q
        obtain ⟨fa, fb, fc, fd⟩ := f
        dsimp only at hpc hs
        subst hpc
        exact jt_step1 hm hget hs trivial (ih (a + 1) g' f' P (by rw [ht]; exact hg) hP hT)
      · rename_i p g' hb hs
        have hpc : q.1 = f.1 := Nat.eq_of_beq_eq_true hb
        obtain ⟨qa, qb, qc, qd⟩ := q
        obtain ⟨fa, fb, fc, fd⟩ := f
        dsimp only at hpc hs
        subst hpc
        split at hg
        · rename_i P2 g2 hg2
          cases hg
          exact jt_step1 hm hget hs hP.1 (ih (a + 1) g' _ P2 (by rw [ht]; exact hg2) hP.2 hT)
        · cases hg
      · cases hg
theorem jt_go (hm : jm_Me mi own il ret fr lo mx) (a k : Nat) {f f' : jm_F} {P : Prop} (hg : jm_go own (il.drop a) k f = some (P, f')) (hP : P) (hT : jt_T mi f' Q) : jt_T mi f Q := jt_goA hm k a f f' P hg hP hT
/-- the same, the memory behind it by a name -/
theorem jt_goM (hm : jm_Me mi own il ret fr lo mx) (a k : Nat) {f : jm_F} {pc' : Nat} {L' : jm_L} {st' : List jm_V} {m' : jm_M} {P : Prop} (hg : jm_go own (il.drop a) k f = some (P, pc', L', st', m')) (hP : P) (hT : ∀ h1 : jm_M, h1 = m' → jt_T mi (pc', L', st', h1) Q) : jt_T mi f Q := jt_goA hm k a f _ P hg hP (hT _ rfl)
theorem jt_pick (ks : List Nat) (hp : jm_pick L ks = L') (k : jt_T mi (pc, L', st, h) Q) : jt_T mi (pc, L, st, h) Q := by
  obtain ⟨n, u, m, h1, h2⟩ := k
  subst hp
  exact ⟨n + 1, u, m, Or.inl ⟨ks, h1⟩, h2⟩
theorem jt_ifA (hm : jm_Me mi own il ret fr lo mx) {a : Nat} {c : ClassFile.Cond} (hq : il[a]? = some (pc, .ifCond c o, 3, v)) (k : jt_T mi (jm_br c x 0 (jm_tg pc o) (pc + 3), L, st, h) Q) : jt_T mi (pc, L, .inl x :: st, h) Q :=
  jt_step1 hm hq (c := none) rfl trivial k
theorem jt_icmpA (hm : jm_Me mi own il ret fr lo mx) {a : Nat} {c : ClassFile.Cond} (hq : il[a]? = some (pc, .if_icmp c o, 3, v)) (k : jt_T mi (jm_br c x y (jm_tg pc o) (pc + 3), L, st, h) Q) : jt_T mi (pc, L, .inl y :: .inl x :: st, h) Q :=
  jt_step1 hm hq (c := none) rfl trivial k
theorem jm_br_lt {t e : Nat} (ht : x < y → jt_T mi (t, L, st, h) Q) (he : ¬ x < y → jt_T mi (e, L, st, h) Q) : jt_T mi (jm_br .lt x y t e, L, st, h) Q := by
  unfold jm_br; dsimp only; split
  · exact ht ‹_›
  · exact he ‹_›
theorem jm_br_ge {t e : Nat} (ht : ¬ x < y → jt_T mi (t, L, st, h) Q) (he : x < y → jt_T mi (e, L, st, h) Q) : jt_T mi (jm_br .ge x y t e, L, st, h) Q := by
  unfold jm_br; dsimp only; split
  · rename_i q; exact ht (Int32.not_lt.mpr q)
  · rename_i q; exact he (Int32.not_le.mp q)
theorem jm_br_gt {t e : Nat} (ht : y < x → jt_T mi (t, L, st, h) Q) (he : ¬ y < x → jt_T mi (e, L, st, h) Q) : jt_T mi (jm_br .gt x y t e, L, st, h) Q := by
  unfold jm_br; dsimp only; split
  · exact ht ‹_›
  · exact he ‹_›
theorem jm_br_le {t e : Nat} (ht : ¬ y < x → jt_T mi (t, L, st, h) Q) (he : y < x → jt_T mi (e, L, st, h) Q) : jt_T mi (jm_br .le x y t e, L, st, h) Q := by
  unfold jm_br; dsimp only; split
  · rename_i q; exact ht (Int32.not_lt.mpr q)
  · rename_i q; exact he (Int32.not_le.mp q)
theorem jm_br_eq {t e : Nat} (ht : x = y → jt_T mi (t, L, st, h) Q) (he : ¬ x = y → jt_T mi (e, L, st, h) Q) : jt_T mi (jm_br .eq x y t e, L, st, h) Q := by
  unfold jm_br; dsimp only; split
  · exact ht ‹_›
  · exact he ‹_›
theorem jm_br_ne {t e : Nat} (ht : ¬ x = y → jt_T mi (t, L, st, h) Q) (he : x = y → jt_T mi (e, L, st, h) Q) : jt_T mi (jm_br .ne x y t e, L, st, h) Q := by
  unfold jm_br; dsimp only; split
  · exact he ‹_›
  · exact ht ‹_›
theorem jt_iflt (hm : jm_Me mi own il ret fr lo mx) (a : Nat) (hq : il[a]? = some (pc, .ifCond .lt o, 3, v)) (hg : jm_tg pc o = tgt) (hn : pc + 3 = nxt) (k1 : x < 0 → jt_T mi (tgt, L, st, h) Q) (k2 : ¬ x < 0 → jt_T mi (nxt, L, st, h) Q) : jt_T mi (pc, L, .inl x :: st, h) Q := by
  subst hg; subst hn
  exact jt_ifA hm hq (jm_br_lt k1 k2)
theorem jt_iclt (hm : jm_Me mi own il ret fr lo mx) (a : Nat) (hq : il[a]? = some (pc, .if_icmp .lt o, 3, v)) (hg : jm_tg pc o = tgt) (hn : pc + 3 = nxt) (k1 : x < y → jt_T mi (tgt, L, st, h) Q) (k2 : ¬ x < y → jt_T mi (nxt, L, st, h) Q) : jt_T mi (pc, L, .inl y :: .inl x :: st, h) Q := by
  subst hg; subst hn
  exact jt_icmpA hm hq (jm_br_lt k1 k2)
theorem jt_ifge (hm : jm_Me mi own il ret fr lo mx) (a : Nat) (hq : il[a]? = some (pc, .ifCond .ge o, 3, v)) (hg : jm_tg pc o = tgt) (hn : pc + 3 = nxt) (k1 : ¬ x < 0 → jt_T mi (tgt, L, st, h) Q) (k2 : x < 0 → jt_T mi (nxt, L, st, h) Q) : jt_T mi (pc, L, .inl x :: st, h) Q := by
  subst hg; subst hn
  exact jt_ifA hm hq (jm_br_ge k1 k2)
theorem jt_icge (hm : jm_Me mi own il ret fr lo mx) (a : Nat) (hq : il[a]? = some (pc, .if_icmp .ge o, 3, v)) (hg : jm_tg pc o = tgt) (hn : pc + 3 = nxt) (k1 : ¬ x < y → jt_T mi (tgt, L, st, h) Q) (k2 : x < y → jt_T mi (nxt, L, st, h) Q) : jt_T mi (pc, L, .inl y :: .inl x :: st, h) Q := by
  subst hg; subst hn
  exact jt_icmpA hm hq (jm_br_ge k1 k2)
theorem jt_ifgt (hm : jm_Me mi own il ret fr lo mx) (a : Nat) (hq : il[a]? = some (pc, .ifCond .gt o, 3, v)) (hg : jm_tg pc o = tgt) (hn : pc + 3 = nxt) (k1 : 0 < x → jt_T mi (tgt, L, st, h) Q) (k2 : ¬ 0 < x → jt_T mi (nxt, L, st, h) Q) : jt_T mi (pc, L, .inl x :: st, h) Q := by
  subst hg; subst hn
  exact jt_ifA hm hq (jm_br_gt k1 k2)
theorem jt_icgt (hm : jm_Me mi own il ret fr lo mx) (a : Nat) (hq : il[a]? = some (pc, .if_icmp .gt o, 3, v)) (hg : jm_tg pc o = tgt) (hn : pc + 3 = nxt) (k1 : y < x → jt_T mi (tgt, L, st, h) Q) (k2 : ¬ y < x → jt_T mi (nxt, L, st, h) Q) : jt_T mi (pc, L, .inl y :: .inl x :: st, h) Q := by
  subst hg; subst hn
  exact jt_icmpA hm hq (jm_br_gt k1 k2)
theorem jt_ifle (hm : jm_Me mi own il ret fr lo mx) (a : Nat) (hq : il[a]? = some (pc, .ifCond .le o, 3, v)) (hg : jm_tg pc o = tgt) (hn : pc + 3 = nxt) (k1 : ¬ 0 < x → jt_T mi (tgt, L, st, h) Q) (k2 : 0 < x → jt_T mi (nxt, L, st, h) Q) : jt_T mi (pc, L, .inl x :: st, h) Q := by
  subst hg; subst hn
  exact jt_ifA hm hq (jm_br_le k1 k2)
theorem jt_icle (hm : jm_Me mi own il ret fr lo mx) (a : Nat) (hq : il[a]? = some (pc, .if_icmp .le o, 3, v)) (hg : jm_tg pc o = tgt) (hn : pc + 3 = nxt) (k1 : ¬ y < x → jt_T mi (tgt, L, st, h) Q) (k2 : y < x → jt_T mi (nxt, L, st, h) Q) : jt_T mi (pc, L, .inl y :: .inl x :: st, h) Q := by
  subst hg; subst hn
  exact jt_icmpA hm hq (jm_br_le k1 k2)
theorem jt_ifeq (hm : jm_Me mi own il ret fr lo mx) (a : Nat) (hq : il[a]? = some (pc, .ifCond .eq o, 3, v)) (hg : jm_tg pc o = tgt) (hn : pc + 3 = nxt) (k1 : x = 0 → jt_T mi (tgt, L, st, h) Q) (k2 : ¬ x = 0 → jt_T mi (nxt, L, st, h) Q) : jt_T mi (pc, L, .inl x :: st, h) Q := by
  subst hg; subst hn
  exact jt_ifA hm hq (jm_br_eq k1 k2)
theorem jt_iceq (hm : jm_Me mi own il ret fr lo mx) (a : Nat) (hq : il[a]? = some (pc, .if_icmp .eq o, 3, v)) (hg : jm_tg pc o = tgt) (hn : pc + 3 = nxt) (k1 : x = y → jt_T mi (tgt, L, st, h) Q) (k2 : ¬ x = y → jt_T mi (nxt, L, st, h) Q) : jt_T mi (pc, L, .inl y :: .inl x :: st, h) Q := by
  subst hg; subst hn
  exact jt_icmpA hm hq (jm_br_eq k1 k2)
theorem jt_ifne (hm : jm_Me mi own il ret fr lo mx) (a : Nat) (hq : il[a]? = some (pc, .ifCond .ne o, 3, v)) (hg : jm_tg pc o = tgt) (hn : pc + 3 = nxt) (k1 : ¬ x = 0 → jt_T mi (tgt, L, st, h) Q) (k2 : x = 0 → jt_T mi (nxt, L, st, h) Q) : jt_T mi (pc, L, .inl x :: st, h) Q := by
  subst hg; subst hn
  exact jt_ifA hm hq (jm_br_ne k1 k2)
theorem jt_icne (hm : jm_Me mi own il ret fr lo mx) (a : Nat) (hq : il[a]? = some (pc, .if_icmp .ne o, 3, v)) (hg : jm_tg pc o = tgt) (hn : pc + 3 = nxt) (k1 : ¬ x = y → jt_T mi (tgt, L, st, h) Q) (k2 : x = y → jt_T mi (nxt, L, st, h) Q) : jt_T mi (pc, L, .inl y :: .inl x :: st, h) Q := by
  subst hg; subst hn
  exact jt_icmpA hm hq (jm_br_ne k1 k2)
/-- a truth as an int -/
def jm_b (P : Prop) [Decidable P] : Int32 := if P then 1 else 0
theorem jm_b_pos {P : Prop} [Decidable P] (h : P) : jm_b P = 1 := if_pos h
theorem jm_b_neg {P : Prop} [Decidable P] (h : ¬ P) : jm_b P = 0 := if_neg h
theorem jm_b_01 (P : Prop) [Decidable P] : jm_b P = 0 ∨ jm_b P = 1 := by
  unfold jm_b; split
  · exact Or.inr rfl
  · exact Or.inl rfl
theorem jm_b_congr {P P' : Prop} [Decidable P] [Decidable P'] (h : P ↔ P') : jm_b P = jm_b P' := by
  by_cases q : P
  · rw [jm_b_pos q, jm_b_pos (h.mp q)]
  · rw [jm_b_neg q, jm_b_neg (fun z => q (h.mpr z))]
theorem jm_b_eq1 {P : Prop} [Decidable P] : jm_b P = 1 ↔ P := by
  unfold jm_b; split
  · rename_i q; exact ⟨fun _ => q, fun _ => rfl⟩
  · rename_i q; exact ⟨fun z => absurd z (by decide), fun z => absurd z q⟩
theorem jm_b_eq0 {P : Prop} [Decidable P] : jm_b P = 0 ↔ ¬ P := by
  unfold jm_b; split
  · rename_i q; exact ⟨fun z => absurd z (by decide), fun z => absurd q z⟩
  · rename_i q; exact ⟨fun _ => q, fun _ => rfl⟩
theorem jt_ifbeq (hm : jm_Me mi own il ret fr lo mx) (a : Nat) {P : Prop} [Decidable P] (hq : il[a]? = some (pc, .ifCond .eq o, 3, v)) (hg : jm_tg pc o = tgt) (hn : pc + 3 = nxt) (k1 : ¬ P → jt_T mi (tgt, L, st, h) Q) (k2 : P → jt_T mi (nxt, L, st, h) Q) : jt_T mi (pc, L, .inl (jm_b P) :: st, h) Q := by
  subst hg; subst hn
  exact jt_ifA hm hq (jm_br_eq (fun z => k1 (jm_b_eq0.mp z)) (fun z => k2 (Decidable.of_not_not (fun w => z (jm_b_eq0.mpr w)))))
theorem jt_ifbne (hm : jm_Me mi own il ret fr lo mx) (a : Nat) {P : Prop} [Decidable P] (hq : il[a]? = some (pc, .ifCond .ne o, 3, v)) (hg : jm_tg pc o = tgt) (hn : pc + 3 = nxt) (k1 : P → jt_T mi (tgt, L, st, h) Q) (k2 : ¬ P → jt_T mi (nxt, L, st, h) Q) : jt_T mi (pc, L, .inl (jm_b P) :: st, h) Q := by
  subst hg; subst hn
  exact jt_ifA hm hq (jm_br_ne (fun z => k1 (Decidable.of_not_not (fun w => z (jm_b_eq0.mpr w)))) (fun z => k2 (jm_b_eq0.mp z)))
def jm_tsG (pc : Nat) (d : Int) (x : Int32) (G : Nat → Prop) : Int → List Int → Prop
  | _, [] => G (jm_tg pc d)
  | k, o :: t => (x = Int32.ofInt k → G (jm_tg pc o)) ∧ (¬ x = Int32.ofInt k → jm_tsG pc d x G (k + 1) t)
def jm_lsG (pc : Nat) (d : Int) (x : Int32) (G : Nat → Prop) : List (Int × Int) → Prop
  | [] => G (jm_tg pc d)
  | q :: t => (x = Int32.ofInt q.1 → G (jm_tg pc q.2)) ∧ (¬ x = Int32.ofInt q.1 → jm_lsG pc d x G t)
theorem jm_tsG_of {pc : Nat} {d : Int} {x : Int32} {G : Nat → Prop} : ∀ (l : List Int) (k : Int), jm_tsG pc d x G k l → G (jm_ts pc d x k l) := by
  intro l
  induction l with
  | nil => intro k h; exact h
  | cons o t ih =>
    intro k h
    unfold jm_ts
    split
    · exact h.1 ‹_›
    · exact ih _ (h.2 ‹_›)
theorem jm_lsG_of {pc : Nat} {d : Int} {x : Int32} {G : Nat → Prop} : ∀ (l : List (Int × Int)), jm_lsG pc d x G l → G (jm_ls pc d x l) := by
  intro l
  induction l with
  | nil => intro h; exact h
  | cons q t ih =>
    intro h
    unfold jm_ls
    split
    · exact h.1 ‹_›
    · exact ih (h.2 ‹_›)
theorem jt_ts (hm : jm_Me mi own il ret fr lo mx) (a : Nat) {d l1 l2 : Int} {os : Array Int} {len : Nat} (hq : il[a]? = some (pc, .tableswitch d l1 l2 os, len, v)) (k : jm_tsG pc d x (fun t => jt_T mi (t, L, st, h) Q) l1 os.toList) : jt_T mi (pc, L, .inl x :: st, h) Q :=
  jt_step1 hm hq (c := none) rfl trivial (jm_tsG_of _ _ k)
theorem jt_ls (hm : jm_Me mi own il ret fr lo mx) (a : Nat) {d : Int} {ps : Array (Int × Int)} {len : Nat} (hq : il[a]? = some (pc, .lookupswitch d ps, len, v)) (k : jm_lsG pc d x (fun t => jt_T mi (t, L, st, h) Q) ps.toList) : jt_T mi (pc, L, .inl x :: st, h) Q :=
  jt_step1 hm hq (c := none) rfl trivial (jm_lsG_of _ k)
def jm_fits (fr lo fr' lo' mx' : Nat) (as rest : List jm_V) : Bool := Nat.ble (fr' + 1) fr && Nat.ble (8 + (mx' + 11) + lo') lo && Nat.ble (jm_wsum rest) 8 && Nat.ble (jm_wsum as) mx'
theorem jt_call (hm : jm_Me mi own il ret fr lo mx) (a : Nat) {i : Instr} {len : Nat} (hq : il[a]? = some (pc, i, len, v)) {mi' : Nat} {as rest : List jm_V} (hc : jm_call own i st = some (mi', as, rest))
    {own' fr' lo' mx' : Nat} {il' : List jm_IT} {ret' : Option FieldType} (hm' : jm_Me mi' own' il' ret' fr' lo' mx') (hfit : jm_fits fr lo fr' lo' mx' as rest = true) (hn : pc + 3 = nxt) (hT : jt_T mi' (0, jm_args 0 as, [], h) Q')
    (k : ∀ (u : Option jm_V) (h' : jm_M), Q' u h' → jt_T mi (nxt, L, u.toList ++ rest, h') Q) : jt_T mi (pc, L, st, h) Q := by
  obtain ⟨n1, u, h', hR1, hq1⟩ := hT
  obtain ⟨n2, u2, m, hR2, hq2⟩ := k u h' hq1
  subst hn
  have hlk := jm_Me_lk hm hq
  obtain ⟨hil, r, hr, rfl, -, rfl, rfl, -⟩ := hm
  obtain ⟨-, r', hr', -, -, rfl, rfl, rfl⟩ := hm'
  unfold jm_fits at hfit
  simp only [Bool.and_eq_true, Nat.ble_eq] at hfit
  refine ⟨max n1 n2 + 1, u2, m, Or.inr ⟨r, il, i, len, v, hr, hil, hlk, Or.inr (Or.inl ⟨mi', r', as, rest, u, h', hc, hr', ?_, jm_Rn_le (Nat.le_max_left _ _) hR1, jm_Rn_le (Nat.le_max_right _ _) hR2⟩)⟩, hq2⟩
  unfold jm_fit
  simp only [Bool.and_eq_true, decide_eq_true_eq]
  exact hfit
/-- a call that answers w and leaves the memory as it is -/
def jt_Pu (mi : Nat) (as : List jm_V) (h : jm_M) (w : jm_V) : Prop := jt_T mi (0, jm_args 0 as, [], h) (fun u h' => u = some w ∧ h' = h)
theorem jt_callp (hm : jm_Me mi own il ret fr lo mx) (a : Nat) {i : Instr} {len : Nat} (hq : il[a]? = some (pc, i, len, v)) {mi' : Nat} {as rest : List jm_V} {w : jm_V} (hc : jm_call own i st = some (mi', as, rest))
    {own' fr' lo' mx' : Nat} {il' : List jm_IT} {ret' : Option FieldType} (hm' : jm_Me mi' own' il' ret' fr' lo' mx') (hfit : jm_fits fr lo fr' lo' mx' as rest = true) (hn : pc + 3 = nxt) (hT : jt_Pu mi' as h w)
    (k : jt_T mi (nxt, L, w :: rest, h) Q) : jt_T mi (pc, L, st, h) Q := jt_call hm a hq hc hm' hfit hn hT (fun u h' e => by obtain ⟨rfl, rfl⟩ := e; exact k)
theorem jt_retA (hm : jm_Me mi own il ret fr lo mx) {a len : Nat} {i : Instr} (hq : il[a]? = some (pc, i, len, v)) {c : Prop} {u : Option jm_V} (hr : jm_ret ret i st = some (c, u)) (hc : c) (hQ : Q u h) : jt_T mi (pc, L, st, h) Q := by
  have hlk := jm_Me_lk hm hq
  obtain ⟨hil, r, hr', -, rfl, -⟩ := hm
  exact ⟨1, u, h, Or.inr ⟨r, il, i, len, v, hr', hil, hlk, Or.inr (Or.inr ⟨c, u, hr, hc, rfl⟩)⟩, hQ⟩
theorem jt_iret (hm : jm_Me mi own il (some .int) fr lo mx) (a : Nat) {len : Nat} (hq : il[a]? = some (pc, .ireturn, len, v)) (hQ : Q (some (.inl x)) h) : jt_T mi (pc, L, [.inl x], h) Q := jt_retA hm hq (c := True) rfl trivial hQ
theorem jt_zret (hm : jm_Me mi own il (some .boolean) fr lo mx) (a : Nat) {len : Nat} (hq : il[a]? = some (pc, .ireturn, len, v)) (hc : x = 0 ∨ x = 1) (hQ : Q (some (.inl x)) h) : jt_T mi (pc, L, [.inl x], h) Q := jt_retA hm hq (c := x = 0 ∨ x = 1) rfl hc hQ
theorem jt_vret (hm : jm_Me mi own il none fr lo mx) (a : Nat) {len : Nat} (hq : il[a]? = some (pc, .return_, len, v)) (hQ : Q none h) : jt_T mi (pc, L, [], h) Q := jt_retA hm hq (c := True) rfl trivial hQ
theorem jt_lret {z : Int64} (hm : jm_Me mi own il (some .long) fr lo mx) (a : Nat) {len : Nat} (hq : il[a]? = some (pc, .lreturn, len, v)) (hQ : Q (some (.inr (.inl z))) h) : jt_T mi (pc, L, [.inr (.inl z)], h) Q := jt_retA hm hq (c := True) rfl trivial hQ
end JMT
