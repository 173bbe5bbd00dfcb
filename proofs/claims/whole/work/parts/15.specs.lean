/-! WHAT THERE IS, in numbers: g: cats, men, hour, day, fish (4 ..), mice (20 ..), cats (36 .. : kind, figure, at, hair, name), men (66 .. : side, passed); how it stands in class and reference. -/
section JMT
variable {mi own fr lo mx pc nxt tgt : Nat} {il : List jm_IT} {ret : Option FieldType} {Q Q' : Option jm_V → jm_M → Prop} {L L' : jm_L} {st : List jm_V} {h : jm_M} {v : Int32} {x y : Int32} {o : Int}
theorem jt_inc (hm : jm_Me mi own il ret fr lo mx) (a : Nat) {k c len : Nat} {kk : Int} (hq : il[a]? = some (pc, .iinc k kk, len, 1)) (hl : L.lookup k = some (.inl (nI c))) (hL : jm_put1 k (.inl (nI (c + 1))) L = L') (hn : pc + len = nxt) (k : jt_T mi (nxt, L', st, h) Q) : jt_T mi (pc, L, st, h) Q := by
  subst hn
  subst hL
  refine jt_step1 hm hq (c := none) (f' := (pc + len, jm_put1 _ (.inl (nI (c + 1))) L, st, h)) ?_ trivial k
  unfold jm_step
  dsimp only
  rw [hl, ← nI_1]
end JMT
theorem jt_k8 {n : Nat} (h : n < 8) : n = 0 ∨ n = 1 ∨ n = 2 ∨ n = 3 ∨ n = 4 ∨ n = 5 ∨ n = 6 ∨ n = 7 := by omega
theorem jm_set_eq (h : jm_M) (c : jm_K) (f : Nat → Int32) : jm_set h c f c = f := if_pos rfl
theorem jm_set_ne {h : jm_M} {c k : jm_K} {f : Nat → Int32} (e : k ≠ c) : jm_set h c f k = h k := if_neg e
theorem jx_eq (f : Nat → Int32) (k : Nat) (x : Int32) : upd f k x k = x := if_pos rfl
theorem jx_ne {f : Nat → Int32} {j k : Nat} {x : Int32} (e : j ≠ k) : upd f k x j = f j := if_neg e
def sp_up (g : Nat → Nat) (k v : Nat) : Nat → Nat := fun i => if i = k then v else g i
theorem sp_up_eq {g : Nat → Nat} {k v i : Nat} (e : i = k) : sp_up g k v i = v := if_pos e
theorem sp_up_ne {g : Nat → Nat} {k v i : Nat} (e : i ≠ k) : sp_up g k v i = g i := if_neg e
theorem sp_up_self {g : Nat → Nat} {k v : Nat} (e : v = g k) : sp_up g k v = g := by
  funext i
  unfold sp_up
  split
  · rename_i q; rw [q, e]
  · rfl
/-- the men that have passed, as bits -/
def sp_pb (g : Nat → Nat) : Nat := g 67 + 2 * g 69 + 4 * g 71 + 8 * g 73 + 16 * g 75 + 32 * g 77
theorem sp_pb_up {g : Nat → Nat} {k v : Nat} (h : k < 67 ∨ k % 2 = 0) : sp_pb (sp_up g k v) = sp_pb g := by
  unfold sp_pb
  rw [sp_up_ne (by omega), sp_up_ne (by omega), sp_up_ne (by omega), sp_up_ne (by omega), sp_up_ne (by omega), sp_up_ne (by omega)]
/-- in the class: the frontier j -/
def jf_rel (h : jm_M) (j : Nat) (g : Nat → Nat) : Prop :=
  h (2, j, 0) 9 = nI (g 0) ∧ h (2, j, 0) 10 = nI (g 1) ∧ h (2, j, 0) 11 = nI (g 2) ∧ h (2, j, 0) 12 = nI (g 3) ∧ h (2, j, 0) 13 = nI (sp_pb g) ∧
  (∀ p, p < 16 → h (6, j, 0) p = nI (g (4 + p))) ∧ (∀ p, p < 16 → h (6, j, 1) p = nI (g (20 + p))) ∧
  (∀ c, c < 6 → h (2, j, 1) c = nI (g (36 + 5 * c))) ∧ (∀ c, c < 6 → h (2, j, 2) c = nI (g (37 + 5 * c))) ∧ (∀ c, c < 6 → h (2, j, 3) c = nI (g (38 + 5 * c))) ∧
  (∀ c, c < 6 → h (2, j, 4) c = nI (g (39 + 5 * c))) ∧ (∀ c, c < 6 → h (2, j, 5) c = nI (g (40 + 5 * c))) ∧ (∀ c, c < 6 → h (2, j, 6) c = nI (g (66 + 2 * c)))
/-- in the reference: the row a -/
def jg_rel (h : jm_M) (a : Nat) (g : Nat → Nat) : Prop := ∀ i, i < 78 → h (5, a, 0) i = nI (g i)
/-- all but the frontier j is as it was; all but the reference's row a -/
def jf_fr (j : Nat) (h h' : jm_M) : Prop := ∀ k : jm_K, ¬ ((k.1 = 2 ∨ k.1 = 6) ∧ k.2.1 = j) → h' k = h k
def jg_fr (a : Nat) (h h' : jm_M) : Prop := ∀ k : jm_K, k ≠ (5, a, 0) → h' k = h k
theorem jf_fr_rf {j : Nat} {h : jm_M} : jf_fr j h h := fun _ _ => rfl
theorem jf_fr_tr {j : Nat} {h h' h2 : jm_M} (a : jf_fr j h h') (b : jf_fr j h' h2) : jf_fr j h h2 := fun k hk => (b k hk).trans (a k hk)
theorem jf_fr_set {j : Nat} {h h' : jm_M} (a : jf_fr j h h') {k : jm_K} {f : Nat → Int32} (hk : (k.1 = 2 ∨ k.1 = 6) ∧ k.2.1 = j) : jf_fr j h (jm_set h' k f) := fun k2 h2 => (jm_set_ne (fun e => h2 (by rw [e]; exact hk))).trans (a k2 h2)
theorem jg_fr_rf {j : Nat} {h : jm_M} : jg_fr j h h := fun _ _ => rfl
theorem jg_fr_tr {j : Nat} {h h' h2 : jm_M} (a : jg_fr j h h') (b : jg_fr j h' h2) : jg_fr j h h2 := fun k hk => (b k hk).trans (a k hk)
theorem jg_fr_set {j : Nat} {h h' : jm_M} (a : jg_fr j h h') {f : Nat → Int32} : jg_fr j h (jm_set h' (5, j, 0) f) := fun k2 h2 => (jm_set_ne h2).trans (a k2 h2)
section JFR
variable {h : jm_M} {j a : Nat} {g : Nat → Nat} {i x : Int32} {c k w : Nat}
theorem jf_cats (R : jf_rel h j g) : h (2, j, 0) 9 = nI (g 0) := R.1
theorem jf_men (R : jf_rel h j g) : h (2, j, 0) 10 = nI (g 1) := R.2.1
theorem jf_hour (R : jf_rel h j g) : h (2, j, 0) 11 = nI (g 2) := R.2.2.1
theorem jf_day (R : jf_rel h j g) : h (2, j, 0) 12 = nI (g 3) := R.2.2.2.1
theorem jf_pass (R : jf_rel h j g) : h (2, j, 0) 13 = nI (sp_pb g) := R.2.2.2.2.1
theorem jf_fish (R : jf_rel h j g) (hi : i.toNatClampNeg = c) (hc : c < 16) : h (6, j, 0) i.toNatClampNeg = nI (g (4 + c)) := by rw [hi]; exact R.2.2.2.2.2.1 c hc
theorem jf_mice (R : jf_rel h j g) (hi : i.toNatClampNeg = c) (hc : c < 16) : h (6, j, 1) i.toNatClampNeg = nI (g (20 + c)) := by rw [hi]; exact R.2.2.2.2.2.2.1 c hc
theorem jf_kind (R : jf_rel h j g) (hi : i.toNatClampNeg = c) (hc : c < 6) : h (2, j, 1) i.toNatClampNeg = nI (g (36 + 5 * c)) := by rw [hi]; exact R.2.2.2.2.2.2.2.1 c hc
theorem jf_fig (R : jf_rel h j g) (hi : i.toNatClampNeg = c) (hc : c < 6) : h (2, j, 2) i.toNatClampNeg = nI (g (37 + 5 * c)) := by rw [hi]; exact R.2.2.2.2.2.2.2.2.1 c hc
theorem jf_at (R : jf_rel h j g) (hi : i.toNatClampNeg = c) (hc : c < 6) : h (2, j, 3) i.toNatClampNeg = nI (g (38 + 5 * c)) := by rw [hi]; exact R.2.2.2.2.2.2.2.2.2.1 c hc
theorem jf_hair (R : jf_rel h j g) (hi : i.toNatClampNeg = c) (hc : c < 6) : h (2, j, 4) i.toNatClampNeg = nI (g (39 + 5 * c)) := by rw [hi]; exact R.2.2.2.2.2.2.2.2.2.2.1 c hc
theorem jf_name (R : jf_rel h j g) (hi : i.toNatClampNeg = c) (hc : c < 6) : h (2, j, 5) i.toNatClampNeg = nI (g (40 + 5 * c)) := by rw [hi]; exact R.2.2.2.2.2.2.2.2.2.2.2.1 c hc
theorem jf_side (R : jf_rel h j g) (hi : i.toNatClampNeg = c) (hc : c < 6) : h (2, j, 6) i.toNatClampNeg = nI (g (66 + 2 * c)) := by rw [hi]; exact R.2.2.2.2.2.2.2.2.2.2.2.2 c hc
theorem jg_get (R : jg_rel h a g) (hi : i.toNatClampNeg = k) (hk : k < 78) : h (5, a, 0) i.toNatClampNeg = nI (g k) := by rw [hi]; exact R k hk
theorem jg_set (R : jg_rel h a g) (hi : i.toNatClampNeg = k) (hx : x = nI w) : jg_rel (jm_set h (5, a, 0) (upd (h (5, a, 0)) i.toNatClampNeg x)) a (sp_up g k w) := by
  intro q hq
  rw [jm_set_eq, hi]
  by_cases e : q = k
  · rw [sp_up_eq e, e, jx_eq]; exact hx
  · rw [sp_up_ne e, jx_ne e]; exact R q hq
theorem jf_mov {h2 : jm_M} (R : jf_rel h j g) (e : ∀ k : jm_K, (k.1 = 2 ∨ k.1 = 6) ∧ k.2.1 = j → h2 k = h k) : jf_rel h2 j g := by
  unfold jf_rel at R ⊢
  rw [e (2, j, 0) ⟨Or.inl rfl, rfl⟩, e (6, j, 0) ⟨Or.inr rfl, rfl⟩, e (6, j, 1) ⟨Or.inr rfl, rfl⟩, e (2, j, 1) ⟨Or.inl rfl, rfl⟩, e (2, j, 2) ⟨Or.inl rfl, rfl⟩, e (2, j, 3) ⟨Or.inl rfl, rfl⟩, e (2, j, 4) ⟨Or.inl rfl, rfl⟩, e (2, j, 5) ⟨Or.inl rfl, rfl⟩, e (2, j, 6) ⟨Or.inl rfl, rfl⟩]
  exact R
theorem jf_set_cats (R : jf_rel h j g) (hx : x = nI w) : jf_rel (jm_set h (2, j, 0) (upd (h (2, j, 0)) 9 x)) j (sp_up g 0 w) := by
  obtain ⟨a0, a1, a2, a3, a4, a5, a6, a7, a8, a9, a10, a11, a12⟩ := R
  refine ⟨?_, ?_, ?_, ?_, ?_, ?_, ?_, ?_, ?_, ?_, ?_, ?_, ?_⟩
  · rw [jm_set_eq, jx_eq, sp_up_eq rfl]; exact hx
  · rw [jm_set_eq, jx_ne (by decide), sp_up_ne (by decide)]; exact a1
  · rw [jm_set_eq, jx_ne (by decide), sp_up_ne (by decide)]; exact a2
  · rw [jm_set_eq, jx_ne (by decide), sp_up_ne (by decide)]; exact a3
  · rw [jm_set_eq, jx_ne (by decide), sp_pb_up (by omega)]; exact a4
  · intro p hp; rw [jm_set_ne (by simp), sp_up_ne (by omega)]; exact a5 p hp
  · intro p hp; rw [jm_set_ne (by simp), sp_up_ne (by omega)]; exact a6 p hp
  · intro p hp; rw [jm_set_ne (by simp), sp_up_ne (by omega)]; exact a7 p hp
  · intro p hp; rw [jm_set_ne (by simp), sp_up_ne (by omega)]; exact a8 p hp
  · intro p hp; rw [jm_set_ne (by simp), sp_up_ne (by omega)]; exact a9 p hp
  · intro p hp; rw [jm_set_ne (by simp), sp_up_ne (by omega)]; exact a10 p hp
  · intro p hp; rw [jm_set_ne (by simp), sp_up_ne (by omega)]; exact a11 p hp
  · intro p hp; rw [jm_set_ne (by simp), sp_up_ne (by omega)]; exact a12 p hp
theorem jf_set_men (R : jf_rel h j g) (hx : x = nI w) : jf_rel (jm_set h (2, j, 0) (upd (h (2, j, 0)) 10 x)) j (sp_up g 1 w) := by
  obtain ⟨a0, a1, a2, a3, a4, a5, a6, a7, a8, a9, a10, a11, a12⟩ := R
  refine ⟨?_, ?_, ?_, ?_, ?_, ?_, ?_, ?_, ?_, ?_, ?_, ?_, ?_⟩
  · rw [jm_set_eq, jx_ne (by decide), sp_up_ne (by decide)]; exact a0
  · rw [jm_set_eq, jx_eq, sp_up_eq rfl]; exact hx
  · rw [jm_set_eq, jx_ne (by decide), sp_up_ne (by decide)]; exact a2
  · rw [jm_set_eq, jx_ne (by decide), sp_up_ne (by decide)]; exact a3
  · rw [jm_set_eq, jx_ne (by decide), sp_pb_up (by omega)]; exact a4
  · intro p hp; rw [jm_set_ne (by simp), sp_up_ne (by omega)]; exact a5 p hp
  · intro p hp; rw [jm_set_ne (by simp), sp_up_ne (by omega)]; exact a6 p hp
  · intro p hp; rw [jm_set_ne (by simp), sp_up_ne (by omega)]; exact a7 p hp
  · intro p hp; rw [jm_set_ne (by simp), sp_up_ne (by omega)]; exact a8 p hp
  · intro p hp; rw [jm_set_ne (by simp), sp_up_ne (by omega)]; exact a9 p hp
  · intro p hp; rw [jm_set_ne (by simp), sp_up_ne (by omega)]; exact a10 p hp
  · intro p hp; rw [jm_set_ne (by simp), sp_up_ne (by omega)]; exact a11 p hp
  · intro p hp; rw [jm_set_ne (by simp), sp_up_ne (by omega)]; exact a12 p hp
theorem jf_set_hour (R : jf_rel h j g) (hx : x = nI w) : jf_rel (jm_set h (2, j, 0) (upd (h (2, j, 0)) 11 x)) j (sp_up g 2 w) := by
  obtain ⟨a0, a1, a2, a3, a4, a5, a6, a7, a8, a9, a10, a11, a12⟩ := R
  refine ⟨?_, ?_, ?_, ?_, ?_, ?_, ?_, ?_, ?_, ?_, ?_, ?_, ?_⟩
  · rw [jm_set_eq, jx_ne (by decide), sp_up_ne (by decide)]; exact a0
  · rw [jm_set_eq, jx_ne (by decide), sp_up_ne (by decide)]; exact a1
  · rw [jm_set_eq, jx_eq, sp_up_eq rfl]; exact hx
  · rw [jm_set_eq, jx_ne (by decide), sp_up_ne (by decide)]; exact a3
  · rw [jm_set_eq, jx_ne (by decide), sp_pb_up (by omega)]; exact a4
  · intro p hp; rw [jm_set_ne (by simp), sp_up_ne (by omega)]; exact a5 p hp
  · intro p hp; rw [jm_set_ne (by simp), sp_up_ne (by omega)]; exact a6 p hp
  · intro p hp; rw [jm_set_ne (by simp), sp_up_ne (by omega)]; exact a7 p hp
  · intro p hp; rw [jm_set_ne (by simp), sp_up_ne (by omega)]; exact a8 p hp
  · intro p hp; rw [jm_set_ne (by simp), sp_up_ne (by omega)]; exact a9 p hp
  · intro p hp; rw [jm_set_ne (by simp), sp_up_ne (by omega)]; exact a10 p hp
  · intro p hp; rw [jm_set_ne (by simp), sp_up_ne (by omega)]; exact a11 p hp
  · intro p hp; rw [jm_set_ne (by simp), sp_up_ne (by omega)]; exact a12 p hp
theorem jf_set_day (R : jf_rel h j g) (hx : x = nI w) : jf_rel (jm_set h (2, j, 0) (upd (h (2, j, 0)) 12 x)) j (sp_up g 3 w) := by
  obtain ⟨a0, a1, a2, a3, a4, a5, a6, a7, a8, a9, a10, a11, a12⟩ := R
  refine ⟨?_, ?_, ?_, ?_, ?_, ?_, ?_, ?_, ?_, ?_, ?_, ?_, ?_⟩
  · rw [jm_set_eq, jx_ne (by decide), sp_up_ne (by decide)]; exact a0
  · rw [jm_set_eq, jx_ne (by decide), sp_up_ne (by decide)]; exact a1
  · rw [jm_set_eq, jx_ne (by decide), sp_up_ne (by decide)]; exact a2
  · rw [jm_set_eq, jx_eq, sp_up_eq rfl]; exact hx
  · rw [jm_set_eq, jx_ne (by decide), sp_pb_up (by omega)]; exact a4
  · intro p hp; rw [jm_set_ne (by simp), sp_up_ne (by omega)]; exact a5 p hp
  · intro p hp; rw [jm_set_ne (by simp), sp_up_ne (by omega)]; exact a6 p hp
  · intro p hp; rw [jm_set_ne (by simp), sp_up_ne (by omega)]; exact a7 p hp
  · intro p hp; rw [jm_set_ne (by simp), sp_up_ne (by omega)]; exact a8 p hp
  · intro p hp; rw [jm_set_ne (by simp), sp_up_ne (by omega)]; exact a9 p hp
  · intro p hp; rw [jm_set_ne (by simp), sp_up_ne (by omega)]; exact a10 p hp
  · intro p hp; rw [jm_set_ne (by simp), sp_up_ne (by omega)]; exact a11 p hp
  · intro p hp; rw [jm_set_ne (by simp), sp_up_ne (by omega)]; exact a12 p hp
theorem jf_set_fish (R : jf_rel h j g) (hi : i.toNatClampNeg = c) (hc : c < 16) (hx : x = nI w) : jf_rel (jm_set h (6, j, 0) (upd (h (6, j, 0)) i.toNatClampNeg x)) j (sp_up g (4 + c) w) := by
  obtain ⟨a0, a1, a2, a3, a4, a5, a6, a7, a8, a9, a10, a11, a12⟩ := R
  refine ⟨?_, ?_, ?_, ?_, ?_, ?_, ?_, ?_, ?_, ?_, ?_, ?_, ?_⟩
  · rw [jm_set_ne (by simp), sp_up_ne (by omega)]; exact a0
  · rw [jm_set_ne (by simp), sp_up_ne (by omega)]; exact a1
  · rw [jm_set_ne (by simp), sp_up_ne (by omega)]; exact a2
  · rw [jm_set_ne (by simp), sp_up_ne (by omega)]; exact a3
  · rw [jm_set_ne (by simp), sp_pb_up (by omega)]; exact a4
  · intro p hp
    rw [jm_set_eq, hi]
    by_cases e : p = c
    · rw [e, jx_eq, sp_up_eq rfl]; exact hx
    · rw [jx_ne e, sp_up_ne (by omega)]; exact a5 p hp
  · intro p hp; rw [jm_set_ne (by simp), sp_up_ne (by omega)]; exact a6 p hp
  · intro p hp; rw [jm_set_ne (by simp), sp_up_ne (by omega)]; exact a7 p hp
  · intro p hp; rw [jm_set_ne (by simp), sp_up_ne (by omega)]; exact a8 p hp
  · intro p hp; rw [jm_set_ne (by simp), sp_up_ne (by omega)]; exact a9 p hp
  · intro p hp; rw [jm_set_ne (by simp), sp_up_ne (by omega)]; exact a10 p hp
  · intro p hp; rw [jm_set_ne (by simp), sp_up_ne (by omega)]; exact a11 p hp
  · intro p hp; rw [jm_set_ne (by simp), sp_up_ne (by omega)]; exact a12 p hp
theorem jf_set_mice (R : jf_rel h j g) (hi : i.toNatClampNeg = c) (hc : c < 16) (hx : x = nI w) : jf_rel (jm_set h (6, j, 1) (upd (h (6, j, 1)) i.toNatClampNeg x)) j (sp_up g (20 + c) w) := by
  obtain ⟨a0, a1, a2, a3, a4, a5, a6, a7, a8, a9, a10, a11, a12⟩ := R
  refine ⟨?_, ?_, ?_, ?_, ?_, ?_, ?_, ?_, ?_, ?_, ?_, ?_, ?_⟩
  · rw [jm_set_ne (by simp), sp_up_ne (by omega)]; exact a0
  · rw [jm_set_ne (by simp), sp_up_ne (by omega)]; exact a1
  · rw [jm_set_ne (by simp), sp_up_ne (by omega)]; exact a2
  · rw [jm_set_ne (by simp), sp_up_ne (by omega)]; exact a3
  · rw [jm_set_ne (by simp), sp_pb_up (by omega)]; exact a4
  · intro p hp; rw [jm_set_ne (by simp), sp_up_ne (by omega)]; exact a5 p hp
  · intro p hp
    rw [jm_set_eq, hi]
    by_cases e : p = c
    · rw [e, jx_eq, sp_up_eq rfl]; exact hx
    · rw [jx_ne e, sp_up_ne (by omega)]; exact a6 p hp
  · intro p hp; rw [jm_set_ne (by simp), sp_up_ne (by omega)]; exact a7 p hp
  · intro p hp; rw [jm_set_ne (by simp), sp_up_ne (by omega)]; exact a8 p hp
  · intro p hp; rw [jm_set_ne (by simp), sp_up_ne (by omega)]; exact a9 p hp
  · intro p hp; rw [jm_set_ne (by simp), sp_up_ne (by omega)]; exact a10 p hp
  · intro p hp; rw [jm_set_ne (by simp), sp_up_ne (by omega)]; exact a11 p hp
  · intro p hp; rw [jm_set_ne (by simp), sp_up_ne (by omega)]; exact a12 p hp
theorem jf_set_kind (R : jf_rel h j g) (hi : i.toNatClampNeg = c) (hc : c < 6) (hx : x = nI w) : jf_rel (jm_set h (2, j, 1) (upd (h (2, j, 1)) i.toNatClampNeg x)) j (sp_up g (36 + 5 * c) w) := by
  obtain ⟨a0, a1, a2, a3, a4, a5, a6, a7, a8, a9, a10, a11, a12⟩ := R
  refine ⟨?_, ?_, ?_, ?_, ?_, ?_, ?_, ?_, ?_, ?_, ?_, ?_, ?_⟩
  · rw [jm_set_ne (by simp), sp_up_ne (by omega)]; exact a0
  · rw [jm_set_ne (by simp), sp_up_ne (by omega)]; exact a1
  · rw [jm_set_ne (by simp), sp_up_ne (by omega)]; exact a2
  · rw [jm_set_ne (by simp), sp_up_ne (by omega)]; exact a3
  · rw [jm_set_ne (by simp), sp_pb_up (by omega)]; exact a4
  · intro p hp; rw [jm_set_ne (by simp), sp_up_ne (by omega)]; exact a5 p hp
  · intro p hp; rw [jm_set_ne (by simp), sp_up_ne (by omega)]; exact a6 p hp
  · intro p hp
    rw [jm_set_eq, hi]
    by_cases e : p = c
    · rw [e, jx_eq, sp_up_eq rfl]; exact hx
    · rw [jx_ne e, sp_up_ne (by omega)]; exact a7 p hp
  · intro p hp; rw [jm_set_ne (by simp), sp_up_ne (by omega)]; exact a8 p hp
  · intro p hp; rw [jm_set_ne (by simp), sp_up_ne (by omega)]; exact a9 p hp
  · intro p hp; rw [jm_set_ne (by simp), sp_up_ne (by omega)]; exact a10 p hp
  · intro p hp; rw [jm_set_ne (by simp), sp_up_ne (by omega)]; exact a11 p hp
  · intro p hp; rw [jm_set_ne (by simp), sp_up_ne (by omega)]; exact a12 p hp
theorem jf_set_fig (R : jf_rel h j g) (hi : i.toNatClampNeg = c) (hc : c < 6) (hx : x = nI w) : jf_rel (jm_set h (2, j, 2) (upd (h (2, j, 2)) i.toNatClampNeg x)) j (sp_up g (37 + 5 * c) w) := by
  obtain ⟨a0, a1, a2, a3, a4, a5, a6, a7, a8, a9, a10, a11, a12⟩ := R
  refine ⟨?_, ?_, ?_, ?_, ?_, ?_, ?_, ?_, ?_, ?_, ?_, ?_, ?_⟩
  · rw [jm_set_ne (by simp), sp_up_ne (by omega)]; exact a0
  · rw [jm_set_ne (by simp), sp_up_ne (by omega)]; exact a1
  · rw [jm_set_ne (by simp), sp_up_ne (by omega)]; exact a2
  · rw [jm_set_ne (by simp), sp_up_ne (by omega)]; exact a3
  · rw [jm_set_ne (by simp), sp_pb_up (by omega)]; exact a4
  · intro p hp; rw [jm_set_ne (by simp), sp_up_ne (by omega)]; exact a5 p hp
  · intro p hp; rw [jm_set_ne (by simp), sp_up_ne (by omega)]; exact a6 p hp
  · intro p hp; rw [jm_set_ne (by simp), sp_up_ne (by omega)]; exact a7 p hp
  · intro p hp
    rw [jm_set_eq, hi]
    by_cases e : p = c
    · rw [e, jx_eq, sp_up_eq rfl]; exact hx
    · rw [jx_ne e, sp_up_ne (by omega)]; exact a8 p hp
  · intro p hp; rw [jm_set_ne (by simp), sp_up_ne (by omega)]; exact a9 p hp
  · intro p hp; rw [jm_set_ne (by simp), sp_up_ne (by omega)]; exact a10 p hp
  · intro p hp; rw [jm_set_ne (by simp), sp_up_ne (by omega)]; exact a11 p hp
  · intro p hp; rw [jm_set_ne (by simp), sp_up_ne (by omega)]; exact a12 p hp
theorem jf_set_at (R : jf_rel h j g) (hi : i.toNatClampNeg = c) (hc : c < 6) (hx : x = nI w) : jf_rel (jm_set h (2, j, 3) (upd (h (2, j, 3)) i.toNatClampNeg x)) j (sp_up g (38 + 5 * c) w) := by
  obtain ⟨a0, a1, a2, a3, a4, a5, a6, a7, a8, a9, a10, a11, a12⟩ := R
  refine ⟨?_, ?_, ?_, ?_, ?_, ?_, ?_, ?_, ?_, ?_, ?_, ?_, ?_⟩
  · rw [jm_set_ne (by simp), sp_up_ne (by omega)]; exact a0
  · rw [jm_set_ne (by simp), sp_up_ne (by omega)]; exact a1
  · rw [jm_set_ne (by simp), sp_up_ne (by omega)]; exact a2
  · rw [jm_set_ne (by simp), sp_up_ne (by omega)]; exact a3
  · rw [jm_set_ne (by simp), sp_pb_up (by omega)]; exact a4
  · intro p hp; rw [jm_set_ne (by simp), sp_up_ne (by omega)]; exact a5 p hp
  · intro p hp; rw [jm_set_ne (by simp), sp_up_ne (by omega)]; exact a6 p hp
  · intro p hp; rw [jm_set_ne (by simp), sp_up_ne (by omega)]; exact a7 p hp
  · intro p hp; rw [jm_set_ne (by simp), sp_up_ne (by omega)]; exact a8 p hp
  · intro p hp
    rw [jm_set_eq, hi]
    by_cases e : p = c
    · rw [e, jx_eq, sp_up_eq rfl]; exact hx
    · rw [jx_ne e, sp_up_ne (by omega)]; exact a9 p hp
  · intro p hp; rw [jm_set_ne (by simp), sp_up_ne (by omega)]; exact a10 p hp
  · intro p hp; rw [jm_set_ne (by simp), sp_up_ne (by omega)]; exact a11 p hp
  · intro p hp; rw [jm_set_ne (by simp), sp_up_ne (by omega)]; exact a12 p hp
theorem jf_set_hair (R : jf_rel h j g) (hi : i.toNatClampNeg = c) (hc : c < 6) (hx : x = nI w) : jf_rel (jm_set h (2, j, 4) (upd (h (2, j, 4)) i.toNatClampNeg x)) j (sp_up g (39 + 5 * c) w) := by
  obtain ⟨a0, a1, a2, a3, a4, a5, a6, a7, a8, a9, a10, a11, a12⟩ := R
  refine ⟨?_, ?_, ?_, ?_, ?_, ?_, ?_, ?_, ?_, ?_, ?_, ?_, ?_⟩
  · rw [jm_set_ne (by simp), sp_up_ne (by omega)]; exact a0
  · rw [jm_set_ne (by simp), sp_up_ne (by omega)]; exact a1
  · rw [jm_set_ne (by simp), sp_up_ne (by omega)]; exact a2
  · rw [jm_set_ne (by simp), sp_up_ne (by omega)]; exact a3
  · rw [jm_set_ne (by simp), sp_pb_up (by omega)]; exact a4
  · intro p hp; rw [jm_set_ne (by simp), sp_up_ne (by omega)]; exact a5 p hp
  · intro p hp; rw [jm_set_ne (by simp), sp_up_ne (by omega)]; exact a6 p hp
  · intro p hp; rw [jm_set_ne (by simp), sp_up_ne (by omega)]; exact a7 p hp
  · intro p hp; rw [jm_set_ne (by simp), sp_up_ne (by omega)]; exact a8 p hp
  · intro p hp; rw [jm_set_ne (by simp), sp_up_ne (by omega)]; exact a9 p hp
  · intro p hp
    rw [jm_set_eq, hi]
    by_cases e : p = c
    · rw [e, jx_eq, sp_up_eq rfl]; exact hx
    · rw [jx_ne e, sp_up_ne (by omega)]; exact a10 p hp
  · intro p hp; rw [jm_set_ne (by simp), sp_up_ne (by omega)]; exact a11 p hp
  · intro p hp; rw [jm_set_ne (by simp), sp_up_ne (by omega)]; exact a12 p hp
theorem jf_set_name (R : jf_rel h j g) (hi : i.toNatClampNeg = c) (hc : c < 6) (hx : x = nI w) : jf_rel (jm_set h (2, j, 5) (upd (h (2, j, 5)) i.toNatClampNeg x)) j (sp_up g (40 + 5 * c) w) := by
  obtain ⟨a0, a1, a2, a3, a4, a5, a6, a7, a8, a9, a10, a11, a12⟩ := R
  refine ⟨?_, ?_, ?_, ?_, ?_, ?_, ?_, ?_, ?_, ?_, ?_, ?_, ?_⟩
  · rw [jm_set_ne (by simp), sp_up_ne (by omega)]; exact a0
  · rw [jm_set_ne (by simp), sp_up_ne (by omega)]; exact a1
  · rw [jm_set_ne (by simp), sp_up_ne (by omega)]; exact a2
  · rw [jm_set_ne (by simp), sp_up_ne (by omega)]; exact a3
  · rw [jm_set_ne (by simp), sp_pb_up (by omega)]; exact a4
  · intro p hp; rw [jm_set_ne (by simp), sp_up_ne (by omega)]; exact a5 p hp
  · intro p hp; rw [jm_set_ne (by simp), sp_up_ne (by omega)]; exact a6 p hp
  · intro p hp; rw [jm_set_ne (by simp), sp_up_ne (by omega)]; exact a7 p hp
  · intro p hp; rw [jm_set_ne (by simp), sp_up_ne (by omega)]; exact a8 p hp
  · intro p hp; rw [jm_set_ne (by simp), sp_up_ne (by omega)]; exact a9 p hp
  · intro p hp; rw [jm_set_ne (by simp), sp_up_ne (by omega)]; exact a10 p hp
  · intro p hp
    rw [jm_set_eq, hi]
    by_cases e : p = c
    · rw [e, jx_eq, sp_up_eq rfl]; exact hx
    · rw [jx_ne e, sp_up_ne (by omega)]; exact a11 p hp
  · intro p hp; rw [jm_set_ne (by simp), sp_up_ne (by omega)]; exact a12 p hp
theorem jf_set_side (R : jf_rel h j g) (hi : i.toNatClampNeg = c) (hc : c < 6) (hx : x = nI w) : jf_rel (jm_set h (2, j, 6) (upd (h (2, j, 6)) i.toNatClampNeg x)) j (sp_up g (66 + 2 * c) w) := by
  obtain ⟨a0, a1, a2, a3, a4, a5, a6, a7, a8, a9, a10, a11, a12⟩ := R
  refine ⟨?_, ?_, ?_, ?_, ?_, ?_, ?_, ?_, ?_, ?_, ?_, ?_, ?_⟩
  · rw [jm_set_ne (by simp), sp_up_ne (by omega)]; exact a0
  · rw [jm_set_ne (by simp), sp_up_ne (by omega)]; exact a1
  · rw [jm_set_ne (by simp), sp_up_ne (by omega)]; exact a2
  · rw [jm_set_ne (by simp), sp_up_ne (by omega)]; exact a3
  · rw [jm_set_ne (by simp), sp_pb_up (by omega)]; exact a4
  · intro p hp; rw [jm_set_ne (by simp), sp_up_ne (by omega)]; exact a5 p hp
  · intro p hp; rw [jm_set_ne (by simp), sp_up_ne (by omega)]; exact a6 p hp
  · intro p hp; rw [jm_set_ne (by simp), sp_up_ne (by omega)]; exact a7 p hp
  · intro p hp; rw [jm_set_ne (by simp), sp_up_ne (by omega)]; exact a8 p hp
  · intro p hp; rw [jm_set_ne (by simp), sp_up_ne (by omega)]; exact a9 p hp
  · intro p hp; rw [jm_set_ne (by simp), sp_up_ne (by omega)]; exact a10 p hp
  · intro p hp; rw [jm_set_ne (by simp), sp_up_ne (by omega)]; exact a11 p hp
  · intro p hp
    rw [jm_set_eq, hi]
    by_cases e : p = c
    · rw [e, jx_eq, sp_up_eq rfl]; exact hx
    · rw [jx_ne e, sp_up_ne (by omega)]; exact a12 p hp
theorem jf_set_pass (R : jf_rel h j g) {P : Nat} (hx : x = nI P) (hc : c < 6) (hw : sp_pb (sp_up g (67 + 2 * c) w) = P) : jf_rel (jm_set h (2, j, 0) (upd (h (2, j, 0)) 13 x)) j (sp_up g (67 + 2 * c) w) := by
  obtain ⟨a0, a1, a2, a3, a4, a5, a6, a7, a8, a9, a10, a11, a12⟩ := R
  refine ⟨?_, ?_, ?_, ?_, ?_, ?_, ?_, ?_, ?_, ?_, ?_, ?_, ?_⟩
  · rw [jm_set_eq, jx_ne (by decide), sp_up_ne (by omega)]; exact a0
  · rw [jm_set_eq, jx_ne (by decide), sp_up_ne (by omega)]; exact a1
  · rw [jm_set_eq, jx_ne (by decide), sp_up_ne (by omega)]; exact a2
  · rw [jm_set_eq, jx_ne (by decide), sp_up_ne (by omega)]; exact a3
  · rw [jm_set_eq, jx_eq, hw]; exact hx
  · intro p hp; rw [jm_set_ne (by simp), sp_up_ne (by omega)]; exact a5 p hp
  · intro p hp; rw [jm_set_ne (by simp), sp_up_ne (by omega)]; exact a6 p hp
  · intro p hp; rw [jm_set_ne (by simp), sp_up_ne (by omega)]; exact a7 p hp
  · intro p hp; rw [jm_set_ne (by simp), sp_up_ne (by omega)]; exact a8 p hp
  · intro p hp; rw [jm_set_ne (by simp), sp_up_ne (by omega)]; exact a9 p hp
  · intro p hp; rw [jm_set_ne (by simp), sp_up_ne (by omega)]; exact a10 p hp
  · intro p hp; rw [jm_set_ne (by simp), sp_up_ne (by omega)]; exact a11 p hp
  · intro p hp; rw [jm_set_ne (by simp), sp_up_ne (by omega)]; exact a12 p hp
theorem jf_set_cr (R : jf_rel h j g) : jf_rel (jm_set h (2, j, 0) (upd (h (2, j, 0)) 14 x)) j g := by
  obtain ⟨a0, a1, a2, a3, a4, a5, a6, a7, a8, a9, a10, a11, a12⟩ := R
  refine ⟨?_, ?_, ?_, ?_, ?_, ?_, ?_, ?_, ?_, ?_, ?_, ?_, ?_⟩
  · rw [jm_set_eq, jx_ne (by decide)]; exact a0
  · rw [jm_set_eq, jx_ne (by decide)]; exact a1
  · rw [jm_set_eq, jx_ne (by decide)]; exact a2
  · rw [jm_set_eq, jx_ne (by decide)]; exact a3
  · rw [jm_set_eq, jx_ne (by decide)]; exact a4
  · intro p hp; rw [jm_set_ne (by simp)]; exact a5 p hp
  · intro p hp; rw [jm_set_ne (by simp)]; exact a6 p hp
  · intro p hp; rw [jm_set_ne (by simp)]; exact a7 p hp
  · intro p hp; rw [jm_set_ne (by simp)]; exact a8 p hp
  · intro p hp; rw [jm_set_ne (by simp)]; exact a9 p hp
  · intro p hp; rw [jm_set_ne (by simp)]; exact a10 p hp
  · intro p hp; rw [jm_set_ne (by simp)]; exact a11 p hp
  · intro p hp; rw [jm_set_ne (by simp)]; exact a12 p hp
end JFR
/-- all numbers in their ranges; a name is a man's, or none -/
def jw (g : Nat → Nat) : Prop := g 0 ≤ 6 ∧ g 1 ≤ 6 ∧ g 2 < 24 ∧ (∀ p, p < 16 → g (4 + p) ≤ 9) ∧ (∀ p, p < 16 → g (20 + p) ≤ 9) ∧ (∀ c, c < 6 → g (36 + 5 * c) < 8) ∧ (∀ c, c < 6 → g (37 + 5 * c) < 10) ∧ (∀ c, c < 6 → g (38 + 5 * c) < 16) ∧ (∀ c, c < 6 → g (39 + 5 * c) ≤ 99) ∧ (∀ c, c < 6 → g (40 + 5 * c) ≤ 9) ∧ (∀ p, p < 6 → g (66 + 2 * p) ≤ 1) ∧ (∀ p, p < 6 → g (67 + 2 * p) ≤ 1) ∧ (∀ c, c < g 0 → g (40 + 5 * c) = 9 ∨ g (40 + 5 * c) < g 1) ∧ (∀ p, p < 6 → g 1 ≤ p → g (67 + 2 * p) = 0)
section JW
variable {g : Nat → Nat} {c p : Nat}
theorem jw_n (W : jw g) : g 0 ≤ 6 := W.1
theorem jw_m (W : jw g) : g 1 ≤ 6 := W.2.1
theorem jw_t (W : jw g) : g 2 < 24 := W.2.2.1
theorem jw_fish (W : jw g) (hp : p < 16) : g (4 + p) ≤ 9 := W.2.2.2.1 p hp
theorem jw_mice (W : jw g) (hp : p < 16) : g (20 + p) ≤ 9 := W.2.2.2.2.1 p hp
theorem jw_kind (W : jw g) (hc : c < 6) : g (36 + 5 * c) < 8 := W.2.2.2.2.2.1 c hc
theorem jw_fig (W : jw g) (hc : c < 6) : g (37 + 5 * c) < 10 := W.2.2.2.2.2.2.1 c hc
theorem jw_at (W : jw g) (hc : c < 6) : g (38 + 5 * c) < 16 := W.2.2.2.2.2.2.2.1 c hc
theorem jw_hair (W : jw g) (hc : c < 6) : g (39 + 5 * c) ≤ 99 := W.2.2.2.2.2.2.2.2.1 c hc
theorem jw_name (W : jw g) (hc : c < 6) : g (40 + 5 * c) ≤ 9 := W.2.2.2.2.2.2.2.2.2.1 c hc
theorem jw_side (W : jw g) (hc : c < 6) : g (66 + 2 * c) ≤ 1 := W.2.2.2.2.2.2.2.2.2.2.1 c hc
theorem jw_pas (W : jw g) (hc : c < 6) : g (67 + 2 * c) ≤ 1 := W.2.2.2.2.2.2.2.2.2.2.2.1 c hc
theorem jw_nm (W : jw g) (hc : c < g 0) : g (40 + 5 * c) = 9 ∨ g (40 + 5 * c) < g 1 := W.2.2.2.2.2.2.2.2.2.2.2.2.1 c hc
theorem jw_pas0 (W : jw g) (hp : p < 6) (h : g 1 ≤ p) : g (67 + 2 * p) = 0 := W.2.2.2.2.2.2.2.2.2.2.2.2.2 p hp h
theorem jw_pb (W : jw g) : sp_pb g < 64 := by
  have h0 : g 67 ≤ 1 := jw_pas W (c := 0) (by decide); have h1 : g 69 ≤ 1 := jw_pas W (c := 1) (by decide); have h2 : g 71 ≤ 1 := jw_pas W (c := 2) (by decide); have h3 : g 73 ≤ 1 := jw_pas W (c := 3) (by decide); have h4 : g 75 ≤ 1 := jw_pas W (c := 4) (by decide); have h5 : g 77 ≤ 1 := jw_pas W (c := 5) (by decide)
  unfold sp_pb
  omega
end JW
/-! what is asked of it -/
def sp_ap (a b : Nat) : Nat := if a < b then b - a else a - b
def sp_sd (p : Nat) : Nat := if p ≤ 7 then 0 else 1
/-- of fish (o = 4) or mice (o = 20): the most, the nearest, the least, among from and the places below k -/
def sp_rich (g : Nat → Nat) (o fm : Nat) : Nat → Nat
  | 0 => fm
  | k + 1 => if g (o + sp_rich g o fm k) < g (o + k) ∨ (g (o + k) = g (o + sp_rich g o fm k) ∧ sp_ap k fm < sp_ap (sp_rich g o fm k) fm) then k else sp_rich g o fm k
/-- the nearest other cat among those below k, and how far (16: none) -/
def sp_near (g : Nat → Nat) (c : Nat) : Nat → Nat × Nat
  | 0 => (c, 16)
  | k + 1 => if k ≠ c ∧ sp_ap (g (38 + 5 * k)) (g (38 + 5 * c)) < (sp_near g c k).2 then (k, sp_ap (g (38 + 5 * k)) (g (38 + 5 * c))) else sp_near g c k
def sp_goalK (g : Nat → Nat) (c k : Nat) : Nat := match k with
  | 1 => sp_rich g 20 (g (38 + 5 * c)) 16
  | 2 => g (38 + 5 * (sp_near g c (g 0)).1)
  | 3 => g (38 + 5 * c)
  | 4 => if g 2 % 2 = 0 then 15 - g (38 + 5 * c) else g (38 + 5 * c)
  | 5 => if 20 ≤ g 2 ∨ g 2 ≤ 4 then sp_rich g 4 (g (38 + 5 * c)) 16 else g (38 + 5 * c)
  | 6 => g (38 + 5 * (sp_near g c (g 0)).1)
  | _ => sp_rich g 4 (g (38 + 5 * c)) 16
def sp_goal (g : Nat → Nat) (c : Nat) : Nat := sp_goalK g c (g (36 + 5 * c))
def sp_pace (k f t : Nat) : Nat := match k with
  | 2 => 1 + f / 4 + 1
  | 4 => 3
  | 6 => 2 * (1 + f / 4 + 1)
  | 7 => if t % 3 = 0 then 1 else 0
  | _ => 1 + f / 4
def sp_grow (k : Nat) : Nat := match k with
  | 3 => 2
  | 5 => 0
  | _ => 1
abbrev sp_read (g : Nat → Nat) (c : Nat) : Prop := ¬ g (40 + 5 * c) = 9 ∧ (g (36 + 5 * c) = 5 ∨ g (39 + 5 * c) < 48)
/-- goes there, no farther than the pace -/
def sp_to (fm goal pace : Nat) : Nat := if fm < goal then fm + min (goal - fm) pace else fm - min (fm - goal) pace
def sp_eat (g : Nat → Nat) (p : Nat) : Nat → Nat := if 0 < g (4 + p) then sp_up g (4 + p) (g (4 + p) - 1) else g
def sp_toc (g : Nat → Nat) (c : Nat) : Nat := sp_to (g (38 + 5 * c)) (sp_goal g c) (sp_pace (g (36 + 5 * c)) (g (37 + 5 * c)) (g 2))
def sp_move (g : Nat → Nat) (c : Nat) : Nat → Nat := if sp_toc g c = g (38 + 5 * c) then g else sp_eat (sp_up g (38 + 5 * c) (sp_toc g c)) (sp_toc g c)
def sp_hair (g : Nat → Nat) (c : Nat) : Nat → Nat := sp_up g (39 + 5 * c) (min 99 (g (39 + 5 * c) + sp_grow (g (36 + 5 * c))))
def sp_pass (g : Nat → Nat) (c fm : Nat) : Nat → Nat := if (¬ g (40 + 5 * c) = 9 ∧ (g (36 + 5 * c) = 5 ∨ g (39 + 5 * c) < 48)) ∧ g (66 + 2 * g (40 + 5 * c)) = fm ∧ g (67 + 2 * g (40 + 5 * c)) = 0 then sp_up (sp_up g (67 + 2 * g (40 + 5 * c)) 1) (66 + 2 * g (40 + 5 * c)) (1 - fm) else g
/-- a cat's hour (kept: dogs), and whether it crosses -/
def sp_gone (g : Nat → Nat) (c : Nat) (kept : Bool) : Nat → Nat := sp_hair (if kept then g else sp_move g c) c
def sp_one (g : Nat → Nat) (c : Nat) (kept : Bool) : Nat → Nat := if sp_sd (g (38 + 5 * c)) ≠ sp_sd (sp_gone g c kept (38 + 5 * c)) then sp_pass (sp_gone g c kept) c (sp_sd (g (38 + 5 * c))) else sp_gone g c kept
def sp_cats (g : Nat → Nat) (kept : Bool) : Nat → (Nat → Nat) × Nat
  | 0 => (g, 0)
  | c + 1 => (sp_one (sp_cats g kept c).1 c kept, if sp_sd ((sp_cats g kept c).1 (38 + 5 * c)) ≠ sp_sd (sp_gone (sp_cats g kept c).1 c kept (38 + 5 * c)) then (sp_cats g kept c).2 + 2 ^ c else (sp_cats g kept c).2)
def sp_clock (g : Nat → Nat) : Nat → Nat := if g 2 + 1 = 24 then sp_up (sp_up g 2 0) 3 (g 3 + 1) else sp_up g 2 (g 2 + 1)
def sp_hour (g : Nat → Nat) (kept : Bool) : Nat → Nat := sp_clock (sp_cats g kept (g 0)).1
def sp_set (g : Nat → Nat) (kept : Bool) : Nat := (sp_cats g kept (g 0)).2
