/-! BETWEEN CALLS: class and reference agree; each call keeps it. -/
def jzc (h : jm_M) (g gi : Nat → Nat) (s : Nat → Nat → Nat) (e : Nat → Nat → Int32) (b : Nat) : Prop := jf_rel h 0 g ∧ jk_rel h s e ∧ h (0, 0, 0) 4 = nI b ∧ (b = 1 → jf_rel h 2 gi)
def jzr (h : jm_M) (g gi : Nat → Nat) (s : Nat → Nat → Nat) (e : Nat → Nat → Int32) (b : Nat) : Prop := jg_rel h 0 g ∧ jl_rel h s e ∧ h (4, 0, 0) 4 = nI b ∧ (b = 1 → jg_rel h 2 gi)
def jzw (g gi : Nat → Nat) (s : Nat → Nat → Nat) (e : Nat → Nat → Int32) (b : Nat) : Prop := jw g ∧ (b = 1 → jw gi) ∧ kw s ∧ ke s e ∧ b ≤ 1
def jz (h : jm_M) : Prop := ∃ (g gi : Nat → Nat) (s : Nat → Nat → Nat) (e : Nat → Nat → Int32) (b : Nat), jzw g gi s e b ∧ jzc h g gi s e b ∧ jzr h g gi s e b
/-- the class leaves the reference's cells, the reference the class' -/
def jzF (h h2 : jm_M) : Prop := ∀ k : jm_K, k.1 = 4 ∨ k.1 = 5 → h2 k = h k
def jzG (h h2 : jm_M) : Prop := ∀ k : jm_K, ¬ (k.1 = 4 ∨ k.1 = 5) → h2 k = h k
section JZ
variable {h h2 : jm_M} {g gi g2 : Nat → Nat} {s s2 : Nat → Nat → Nat} {e e2 : Nat → Nat → Int32} {b mi : Nat} {f : jm_F} {v : jm_V}
theorem jzr_mv (R : jzr h g gi s e b) (F : jzF h h2) : jzr h2 g gi s e b := by
  refine ⟨fun i hi => ?_, jl_mv R.2.1 (fun k hk => F k (Or.inl hk.1)), ?_, fun q i hi => ?_⟩
  · rw [F (5, 0, 0) (Or.inr rfl)]; exact R.1 i hi
  · rw [F (4, 0, 0) (Or.inl rfl)]; exact R.2.2.1
  · rw [F (5, 2, 0) (Or.inr rfl)]; exact R.2.2.2 q i hi
theorem jzc_mv (R : jzc h g gi s e b) (F : jzG h h2) : jzc h2 g gi s e b := by
  refine ⟨jf_mov R.1 (fun k hk => F k (fun z => by have := hk.1; omega)), jk_mv R.2.1 (fun k hk => F k (fun z => by omega)), ?_, fun q => jf_mov (R.2.2.2 q) (fun k hk => F k (fun z => by have := hk.1; omega))⟩
  rw [F (0, 0, 0) (by decide)]; exact R.2.2.1
theorem jzF_of (F : ∀ k : jm_K, ¬ (k.1 = 0 ∨ k.1 = 2 ∨ k.1 = 3 ∨ k.1 = 6) → h2 k = h k) : jzF h h2 := fun k hk => F k (fun z => by omega)
theorem jzF_rf : jzF h h := fun _ _ => rfl
theorem jzG_rf : jzG h h := fun _ _ => rfl
-- the class
theorem zcA (C : jzc h g gi s e b) (T : jt_T mi f (fun u h' => u = some v ∧ jf_fr 1 h h')) : jt_T mi f (fun u h' => u = some v ∧ jzc h' g gi s e b ∧ jzF h h') :=
  jt_mono T (fun u h2 z => ⟨z.1, ⟨jf_mov0 C.1 z.2, jk_mvf C.2.1 z.2, (congrFun (z.2 (0, 0, 0) (by decide)) 4).trans C.2.2.1, fun q => jf_mv (C.2.2.2 q) z.2 (by decide)⟩, fun k hk => z.2 k (fun w => by have := w.1; omega)⟩)
theorem zcB (C : jzc h g gi s e b) (T : jt_T mi f (fun u h' => u = some v ∧ jf_rel h' 0 g2 ∧ jf_fr 0 h h')) : jt_T mi f (fun u h' => u = some v ∧ jzc h' g2 gi s e b ∧ jzF h h') :=
  jt_mono T (fun u h2 z => ⟨z.1, ⟨z.2.1, jk_mvf C.2.1 z.2.2, (congrFun (z.2.2 (0, 0, 0) (by decide)) 4).trans C.2.2.1, fun q => jf_mv (C.2.2.2 q) z.2.2 (by decide)⟩, fun k hk => z.2.2 k (fun w => by have := w.1; omega)⟩)
theorem zcQ (C : jzc h g gi s e b) (T : jt_T mi f (fun u h' => u = some v ∧ jf_rel h' 0 g2 ∧ jq_fr h h')) : jt_T mi f (fun u h' => u = some v ∧ jzc h' g2 gi s e b ∧ jzF h h') :=
  jt_mono T (fun u h2 z => ⟨z.1, ⟨z.2.1, jk_mv C.2.1 (fun k hk => z.2.2 k (fun w => by have := w.1; omega)), (congrFun (z.2.2 (0, 0, 0) (by decide)) 4).trans C.2.2.1, fun q => jf_mov (C.2.2.2 q) (fun k hk => z.2.2 k (fun w => by have := w.2; have := hk.2; omega))⟩, fun k hk => z.2.2 k (fun w => by have := w.1; omega)⟩)
theorem zcV (C : jzc h g gi s e b) (T : jt_T mi f (fun u h' => u = some v ∧ jv_fr h h')) : jt_T mi f (fun u h' => u = some v ∧ jzc h' g gi s e b ∧ jzF h h') := by
  have n3 : ∀ k : jm_K, ¬ k.1 = 0 → k ≠ (0, 0, 3) := fun k hk q => hk (congrArg (fun z : jm_K => z.1) q)
  exact jt_mono T (fun u h2 z => ⟨z.1, ⟨jf_mov C.1 (fun k hk => z.2 k (fun w => by have := w.2; have := hk.2; omega) (n3 k (fun w => by have := hk.1; omega))), jk_mv C.2.1 (fun k hk => z.2 k (fun w => by have := w.1; omega) (n3 k (fun w => by omega))), (congrFun (z.2 (0, 0, 0) (by decide) (by decide)) 4).trans C.2.2.1, fun q => jf_mov (C.2.2.2 q) (fun k hk => z.2 k (fun w => by have := w.2; have := hk.2; omega) (n3 k (fun w => by have := hk.1; omega)))⟩, fun k hk => z.2 k (fun w => by have := w.1; omega) (n3 k (fun w => by omega))⟩)
theorem zcS (C : jzc h g gi s e b) (T : jt_T mi f (fun u h' => u = some v ∧ jk_rel h' s2 e2 ∧ jk_fr h h')) : jt_T mi f (fun u h' => u = some v ∧ jzc h' g gi s2 e2 b ∧ jzF h h') :=
  jt_mono T (fun u h2 z => ⟨z.1, ⟨jf_mov C.1 (fun k hk => z.2.2 k (fun w => by have := hk.1; omega)), z.2.1, (congrFun (z.2.2 (0, 0, 0) (by decide)) 4).trans C.2.2.1, fun q => jf_mov (C.2.2.2 q) (fun k hk => z.2.2 k (fun w => by have := hk.1; omega))⟩, fun k hk => z.2.2 k (fun w => by omega)⟩)
theorem zc0 (C : jzc h g gi s e b) (T : jt_T mi f (fun u h' => u = some v ∧ h' = h)) : jt_T mi f (fun u h' => u = some v ∧ jzc h' g gi s e b ∧ jzF h h') :=
  jt_mono T (fun u h2 z => by obtain ⟨z1, rfl⟩ := z; exact ⟨z1, C, jzF_rf⟩)
theorem zcI (C : jzc h g gi s e b) (T : jt_T mi f (fun u h' => u = some v ∧ jf_rel h' 2 g ∧ h' (0, 0, 0) 4 = nI 1 ∧ ji_fr 2 h h')) : jt_T mi f (fun u h' => u = some v ∧ jzc h' g g s e 1 ∧ jzF h h') := by
  have n0 : ∀ k : jm_K, ¬ k.1 = 0 → k ≠ (0, 0, 0) := fun k hk q => hk (congrArg (fun z : jm_K => z.1) q)
  exact jt_mono T (fun u h2 z => ⟨z.1, ⟨jf_mov C.1 (fun k hk => z.2.2.2 k (fun w => by have := w.2; have := hk.2; omega) (n0 k (fun w => by have := hk.1; omega))), jk_mv C.2.1 (fun k hk => z.2.2.2 k (fun w => by have := w.1; omega) (n0 k (fun w => by omega))), z.2.2.1, fun _ => z.2.1⟩, fun k hk => z.2.2.2 k (fun w => by have := w.1; omega) (n0 k (fun w => by omega))⟩)
-- the reference
theorem jg_n4 {k : jm_K} {a c : Nat} (hk : ¬ k.1 = 4) : k ≠ (4, a, c) := fun q => hk (congrArg (fun z : jm_K => z.1) q)
theorem jg_n5 {k : jm_K} {a c : Nat} (hk : ¬ k.1 = 5) : k ≠ (5, a, c) := fun q => hk (congrArg (fun z : jm_K => z.1) q)
theorem zrA (C : jzr h g gi s e b) (T : jt_T mi f (fun u h' => u = some v ∧ jg_fr 1 h h')) : jt_T mi f (fun u h' => u = some v ∧ jzr h' g gi s e b ∧ jzG h h') :=
  jt_mono T (fun u h2 z => ⟨z.1, ⟨jg_mov0 C.1 z.2, jl_mvg C.2.1 z.2, (congrFun (z.2 (4, 0, 0) (by decide)) 4).trans C.2.2.1, fun q => jg_mv (C.2.2.2 q) z.2 (by decide)⟩, fun k hk => z.2 k (jg_n5 (fun w => hk (Or.inr w)))⟩)
theorem zrB (C : jzr h g gi s e b) (T : jt_T mi f (fun u h' => u = some v ∧ jg_rel h' 0 g2 ∧ jg_fr 0 h h')) : jt_T mi f (fun u h' => u = some v ∧ jzr h' g2 gi s e b ∧ jzG h h') :=
  jt_mono T (fun u h2 z => ⟨z.1, ⟨z.2.1, jl_mvg C.2.1 z.2.2, (congrFun (z.2.2 (4, 0, 0) (by decide)) 4).trans C.2.2.1, fun q => jg_mv (C.2.2.2 q) z.2.2 (by decide)⟩, fun k hk => z.2.2 k (jg_n5 (fun w => hk (Or.inr w)))⟩)
theorem zrR (C : jzr h g gi s e b) (T : jt_T mi f (fun u h' => u = some v ∧ jg_rel h' 0 g2 ∧ jr_fr h h')) : jt_T mi f (fun u h' => u = some v ∧ jzr h' g2 gi s e b ∧ jzG h h') :=
  jt_mono T (fun u h2 z => ⟨z.1, ⟨z.2.1, jl_mvr C.2.1 z.2.2, z.2.2.2.trans C.2.2.1, fun q i hi => by rw [z.2.2.1 (5, 2, 0) (by decide) (by decide) (by decide) (by decide)]; exact C.2.2.2 q i hi⟩, fun k hk => z.2.2.1 k (jg_n5 (fun w => hk (Or.inr w))) (jg_n5 (fun w => hk (Or.inr w))) (jg_n4 (fun w => hk (Or.inl w))) (jg_n4 (fun w => hk (Or.inl w)))⟩)
theorem zrO (C : jzr h g gi s e b) (T : jt_T mi f (fun u h' => u = some v ∧ jo_fr h h')) : jt_T mi f (fun u h' => u = some v ∧ jzr h' g gi s e b ∧ jzG h h') :=
  jt_mono T (fun u h2 z => ⟨z.1, ⟨jo_mov C.1 z.2, jl_mv C.2.1 (fun k hk => z.2.1 k (jg_n5 (fun w => by omega)) (jg_n5 (fun w => by omega)) (fun w => by rw [w] at hk; exact absurd hk.2 (by decide)) (fun w => by rw [w] at hk; exact absurd hk.2 (by decide)) (fun w => by rw [w] at hk; exact absurd hk.2 (by decide))), z.2.2.trans C.2.2.1, fun q i hi => by rw [z.2.1 (5, 2, 0) (by decide) (by decide) (by decide) (by decide) (by decide)]; exact C.2.2.2 q i hi⟩, fun k hk => z.2.1 k (jg_n5 (fun w => hk (Or.inr w))) (jg_n5 (fun w => hk (Or.inr w))) (jg_n4 (fun w => hk (Or.inl w))) (jg_n4 (fun w => hk (Or.inl w))) (jg_n4 (fun w => hk (Or.inl w)))⟩)
theorem zrJ (C : jzr h g gi s e b) (T : jt_T mi f (fun u h' => u = some v ∧ jb_fr h h')) : jt_T mi f (fun u h' => u = some v ∧ jzr h' g gi s e b ∧ jzG h h') :=
  jt_mono T (fun u h2 z => ⟨z.1, ⟨fun i hi => by rw [z.2 (5, 0, 0) (by decide) (by decide)]; exact C.1 i hi, jl_mv C.2.1 (fun k hk => z.2 k (jg_n5 (fun w => by omega)) (fun w => by rw [w] at hk; exact absurd hk.2 (by decide))), (congrFun (z.2 (4, 0, 0) (by decide) (by decide)) 4).trans C.2.2.1, fun q i hi => by rw [z.2 (5, 2, 0) (by decide) (by decide)]; exact C.2.2.2 q i hi⟩, fun k hk => z.2 k (jg_n5 (fun w => hk (Or.inr w))) (jg_n4 (fun w => hk (Or.inl w)))⟩)
theorem zrS (C : jzr h g gi s e b) (T : jt_T mi f (fun u h' => u = some v ∧ jl_rel h' s2 e2 ∧ jl_fr h h')) : jt_T mi f (fun u h' => u = some v ∧ jzr h' g gi s2 e2 b ∧ jzG h h') :=
  jt_mono T (fun u h2 z => ⟨z.1, ⟨fun i hi => by rw [z.2.2 (5, 0, 0) (by decide)]; exact C.1 i hi, z.2.1, (congrFun (z.2.2 (4, 0, 0) (by decide)) 4).trans C.2.2.1, fun q i hi => by rw [z.2.2 (5, 2, 0) (by decide)]; exact C.2.2.2 q i hi⟩, fun k hk => z.2.2 k (fun w => hk (Or.inl w.1))⟩)
theorem zr0 (C : jzr h g gi s e b) (T : jt_T mi f (fun u h' => u = some v ∧ h' = h)) : jt_T mi f (fun u h' => u = some v ∧ jzr h' g gi s e b ∧ jzG h h') :=
  jt_mono T (fun u h2 z => by obtain ⟨z1, rfl⟩ := z; exact ⟨z1, C, jzG_rf⟩)
theorem zrI (C : jzr h g gi s e b) (T : jt_T mi f (fun u h' => u = some v ∧ jg_rel h' 2 g ∧ h' (4, 0, 0) 4 = nI 1 ∧ ji_gr 2 h h')) : jt_T mi f (fun u h' => u = some v ∧ jzr h' g g s e 1 ∧ jzG h h') :=
  jt_mono T (fun u h2 z => ⟨z.1, ⟨fun i hi => by rw [z.2.2.2 (5, 0, 0) (by decide) (by decide)]; exact C.1 i hi, jl_mv C.2.1 (fun k hk => z.2.2.2 k (jg_n5 (fun w => by omega)) (fun w => by rw [w] at hk; exact absurd hk.2 (by decide))), z.2.2.1, fun _ => z.2.1⟩, fun k hk => z.2.2.2 k (jg_n5 (fun w => hk (Or.inr w))) (jg_n4 (fun w => hk (Or.inl w)))⟩)
end JZ
abbrev jz_e (mi : Nat) (c : jm_K) (as : List jm_V) (h : jm_M) : jm_F := (0, jm_args 0 (.inr (.inr c) :: as), [], h)
/-- the class' method mc and the reference's mr, at the arguments as, from every state between calls: the same answer (V: an int, a long), and again a state between calls -/
def jc_ok (V : jm_V → Prop) (mc mr : Nat) (as : List jm_V) : Prop := ∀ h, jz h → ∃ (v : jm_V) (h1 h2 : jm_M) (n1 n2 : Nat), V v ∧ jm_Rn n1 mc (jz_e mc (0, 0, 0) as h) (some v, h1) ∧ jm_Rn n2 mr (jz_e mr (4, 0, 0) as h1) (some v, h2) ∧ jz h2
def jc_I (v : jm_V) : Prop := ∃ x : Int32, v = .inl x
def jc_L (v : jm_V) : Prop := ∃ x : Int64, v = .inr (.inl x)
theorem jc_mk {V : jm_V → Prop} {mc mr : Nat} {as : List jm_V} (K : ∀ (g gi : Nat → Nat) (s : Nat → Nat → Nat) (e : Nat → Nat → Int32) (b : Nat), jzw g gi s e b → ∃ (v : jm_V) (g' gi' : Nat → Nat) (s' : Nat → Nat → Nat) (e' : Nat → Nat → Int32) (b' : Nat), V v ∧ jzw g' gi' s' e' b' ∧ (∀ h, jzc h g gi s e b → jt_T mc (jz_e mc (0, 0, 0) as h) (fun u h' => u = some v ∧ jzc h' g' gi' s' e' b' ∧ jzF h h')) ∧ (∀ h, jzr h g gi s e b → jt_T mr (jz_e mr (4, 0, 0) as h) (fun u h' => u = some v ∧ jzr h' g' gi' s' e' b' ∧ jzG h h'))) : jc_ok V mc mr as := by
  intro h J
  obtain ⟨g, gi, s, e, b, W, C, R⟩ := J
  obtain ⟨v, g', gi', s', e', b', hv, W', TC, TR⟩ := K g gi s e b W
  obtain ⟨n1, u1, h1, r1, e1, C1, F1⟩ := TC h C
  obtain ⟨n2, u2, h2, r2, e2, R2, F2⟩ := TR h1 (jzr_mv R F1)
  subst e1
  subst e2
  exact ⟨v, h1, h2, n1, n2, hv, r1, r2, g', gi', s', e', b', W', jzc_mv C1 F2, R2⟩
theorem zz_cat (x y : Int32) : jc_ok jc_I 75 175 [.inl x, .inl y] := jc_mk (fun g gi s e b X => ⟨.inl (za_cat g x y), g, gi, s, e, b, ⟨_, rfl⟩, X, fun h C => zcA C (ca_cat C.1 X.1), fun h D => zrA D (cb_cat D.1 X.1)⟩)
theorem zz_man (x y : Int32) : jc_ok jc_I 76 176 [.inl x, .inl y] := jc_mk (fun g gi s e b X => ⟨.inl (za_man g x y), g, gi, s, e, b, ⟨_, rfl⟩, X, fun h C => zcA C (ca_man C.1 X.1), fun h D => zrA D (cb_man D.1 X.1)⟩)
theorem zz_place (x y : Int32) : jc_ok jc_I 77 178 [.inl x, .inl y] := jc_mk (fun g gi s e b X => ⟨.inl (za_place g x y), g, gi, s, e, b, ⟨_, rfl⟩, X, fun h C => zcA C (ca_place C.1 X.1), fun h D => zrA D (cb_place D.1 X.1)⟩)
theorem zz_catThen (x y z : Int32) : jc_ok jc_I 84 186 [.inl x, .inl y, .inl z] := jc_mk (fun g gi s e b X => ⟨.inl (za_catThen g x y z), g, gi, s, e, b, ⟨_, rfl⟩, X, fun h C => zcA C (ca_catThen C.1 X.1), fun h D => zrA D (cb_catThen D.1 X.1)⟩)
theorem zz_then (x y : Int32) : jc_ok jc_I 85 188 [.inl x, .inl y] := jc_mk (fun g gi s e b X => ⟨.inl (za_then g x y), g, gi, s, e, b, ⟨_, rfl⟩, X, fun h C => zcA C (ca_then C.1 X.1), fun h D => zrA D (cb_then D.1 X.1)⟩)
theorem zz_crosses (x : Int32) : jc_ok jc_I 86 189 [.inl x] := jc_mk (fun g gi s e b X => ⟨.inl (za_crosses g x), g, gi, s, e, b, ⟨_, rfl⟩, X, fun h C => zcA C (ca_crosses C.1 X.1), fun h D => zrA D (cb_crosses D.1 X.1)⟩)
theorem zz_crossings (x y : Int32) : jc_ok jc_I 87 190 [.inl x, .inl y] := jc_mk (fun g gi s e b X => ⟨.inl (za_crossings g x y), g, gi, s, e, b, ⟨_, rfl⟩, X, fun h C => zcA C (ca_crossings C.1 X.1), fun h D => zrA D (cb_crossings D.1 X.1)⟩)
theorem zz_passes (x : Int32) : jc_ok jc_I 88 193 [.inl x] := jc_mk (fun g gi s e b X => ⟨.inl (za_passes g x), g, gi, s, e, b, ⟨_, rfl⟩, X, fun h C => zcA C (ca_passes C.1 X.1), fun h D => zrA D (cb_passes D.1 X.1)⟩)
theorem zz_first : jc_ok jc_I 90 194 [] := jc_mk (fun g gi s e b X => ⟨.inl (za_first g), g, gi, s, e, b, ⟨_, rfl⟩, X, fun h C => zcA C (ca_first C.1 X.1), fun h D => zrA D (cb_first D.1 X.1)⟩)
theorem zz_write (x y : Int32) : jc_ok jc_I 91 196 [.inl x, .inl y] := jc_mk (fun g gi s e b X => ⟨.inl (za_write g x y), g, gi, s, e, b, ⟨_, rfl⟩, X, fun h C => zcA C (ca_write C.1 X.1), fun h D => zrA D (cb_write D.1 X.1)⟩)
theorem zz_good (x : Int32) : jc_ok jc_I 93 197 [.inl x] := jc_mk (fun g gi s e b X => ⟨.inl (za_good g x), g, gi, s, e, b, ⟨_, rfl⟩, X, fun h C => zcA C (ca_good C.1 X.1), fun h D => zrA D (cb_good D.1 X.1)⟩)
theorem zz_putFish (x y z w : Int32) : jc_ok jc_I 94 200 [.inl x, .inl y, .inl z, .inl w] := jc_mk (fun g gi s e b X => ⟨.inl (za_putFish g x y z w), g, gi, s, e, b, ⟨_, rfl⟩, X, fun h C => zcA C (ca_putFish C.1 X.1), fun h D => zrA D (cb_putFish D.1 X.1)⟩)
theorem zz_together (x y : Int32) : jc_ok jc_I 96 201 [.inl x, .inl y] := jc_mk (fun g gi s e b X => ⟨.inl (za_together g x y), g, gi, s, e, b, ⟨_, rfl⟩, X, fun h C => zcA C (ca_together C.1 X.1), fun h D => zrA D (cb_together D.1 X.1)⟩)
theorem zz_all : jc_ok jc_I 97 202 [] := jc_mk (fun g gi s e b X => ⟨.inl (za_all g), g, gi, s, e, b, ⟨_, rfl⟩, X, fun h C => zcA C (ca_all C.1 X.1), fun h D => zrA D (cb_all D.1 X.1)⟩)
theorem zz_deserted (x : Int32) : jc_ok jc_I 99 203 [.inl x] := jc_mk (fun g gi s e b X => ⟨.inl (za_deserted g x), g, gi, s, e, b, ⟨_, rfl⟩, X, fun h C => zcA C (ca_deserted C.1 X.1), fun h D => zrA D (cb_deserted D.1 X.1)⟩)
theorem zz_meet (x y : Int32) : jc_ok jc_I 100 204 [.inl x, .inl y] := jc_mk (fun g gi s e b X => ⟨.inl (za_meet g x y), g, gi, s, e, b, ⟨_, rfl⟩, X, fun h C => zcA C (ca_meet C.1 X.1), fun h D => zrA D (cb_meet D.1 X.1)⟩)
theorem zz_shave (x : Int32) : jc_ok jc_I 101 205 [.inl x] := jc_mk (fun g gi s e b X => ⟨.inl (za_shave g x), g, gi, s, e, b, ⟨_, rfl⟩, X, fun h C => zcA C (ca_shave C.1 X.1), fun h D => zrA D (cb_shave D.1 X.1)⟩)
theorem zz_bribe (x y z : Int32) : jc_ok jc_I 102 206 [.inl x, .inl y, .inl z] := jc_mk (fun g gi s e b X => ⟨.inl (za_bribe g x y z), g, gi, s, e, b, ⟨_, rfl⟩, X, fun h C => zcA C (ca_bribe C.1 X.1), fun h D => zrA D (cb_bribe D.1 X.1)⟩)
theorem zz_nearest (x : Int32) : jc_ok jc_I 105 209 [.inl x] := jc_mk (fun g gi s e b X => ⟨.inl (za_nearest g x), g, gi, s, e, b, ⟨_, rfl⟩, X, fun h C => zcA C (ca_nearest C.1 X.1), fun h D => zrA D (cb_nearest D.1 X.1)⟩)
theorem zz_two (x : Int32) : jc_ok jc_I 110 214 [.inl x] := jc_mk (fun g gi s e b X => ⟨.inl (za_two g x), g, gi, s, e, b, ⟨_, rfl⟩, X, fun h C => zcA C (ca_two C.1 X.1), fun h D => zrA D (cb_two D.1 X.1)⟩)
theorem zz_count (x : Int32) : jc_ok jc_I 126 225 [.inl x] := jc_mk (fun g gi s e b X => ⟨.inl (za_count g x), g, gi, s, e, b, ⟨_, rfl⟩, X, fun h C => zcA C (ca_count C.1 X.1), fun h D => zrA D (cb_count D.1 X.1)⟩)
theorem zz_dogs (x y z v q : Int32) : jc_ok jc_L 112 217 [.inl x, .inl y, .inl z, .inl v, .inl q] := jc_mk (fun g gi s e b X => ⟨.inr (.inl (za_dogs g x y z v q)), g, gi, s, e, b, ⟨_, rfl⟩, X, fun h C => zcA C (ca_dogs C.1 X.1), fun h D => zrA D (cb_dogs D.1 X.1)⟩)
theorem zz_mean (x : Int32) : jc_ok jc_L 115 218 [.inl x] := jc_mk (fun g gi s e b X => ⟨.inr (.inl (za_mean g x)), g, gi, s, e, b, ⟨_, rfl⟩, X, fun h C => zcA C (ca_mean C.1 X.1), fun h D => zrA D (cb_mean D.1 X.1)⟩)
theorem zz_carries (x y : Int32) : jc_ok jc_I 82 183 [.inl x, .inl y] := jc_mk (fun g gi s e b X => ⟨.inl (za_carries g x y), zm_carries g x y, gi, s, e, b, ⟨_, rfl⟩, ⟨jw_carries X.1 x y, X.2⟩, fun h C => zcB C (ca_carries C.1 X.1), fun h D => zrB D (cb_carries D.1 X.1)⟩)
theorem zz_lays (x y z : Int32) : jc_ok jc_I 81 182 [.inl x, .inl y, .inl z] := jc_mk (fun g gi s e b X => ⟨.inl (za_lays g x y z), zm_lays g x y z, gi, s, e, b, ⟨_, rfl⟩, ⟨jw_lays X.1 x y z, X.2⟩, fun h C => zcB C (ca_lays C.1 X.1), fun h D => zrB D (cb_lays D.1 X.1)⟩)
theorem zz_hours (x : Int32) : jc_ok jc_I 83 184 [.inl x] := jc_mk (fun g gi s e b X => ⟨.inl (za_hours g x), zm_hours g x, gi, s, e, b, ⟨_, rfl⟩, ⟨jw_hours X.1 x, X.2⟩, fun h C => zcB C (ca_hours C.1 X.1), fun h D => zrB D (cb_hours D.1 X.1)⟩)
theorem zz_waits (x : Int32) : jc_ok jc_I 79 180 [.inl x] := jc_mk (fun g gi s e b X => ⟨.inl (za_waits g x), zm_waits g x, gi, s, e, b, ⟨_, rfl⟩, ⟨jw_waits X.1 x, X.2⟩, fun h C => zcB C (ca_waits C.1 X.1), fun h D => zrB D (cb_waits D.1 X.1)⟩)
theorem zz_writes (x y : Int32) : jc_ok jc_I 80 181 [.inl x, .inl y] := jc_mk (fun g gi s e b X => ⟨.inl (za_writes g x y), zm_writes g x y, gi, s, e, b, ⟨_, rfl⟩, ⟨jw_writes X.1 x y, X.2⟩, fun h C => zcB C (ca_writes C.1 X.1), fun h D => zrB D (cb_writes D.1 X.1)⟩)
theorem zz_nights (x z v : Int32) : jc_ok jc_I 121 222 [.inl x, .inl z, .inl v] := jc_mk (fun g gi s e b X => ⟨.inl (za_nights g x z v), g, gi, s, e, b, ⟨_, rfl⟩, X, fun h C => zcA C (ca_nights C.1 X.1), fun h D => zrO D (cb_nights D.1 X.1)⟩)
theorem zz_busiest (x y : Int32) : jc_ok jc_I 103 207 [.inl x, .inl y] := jc_mk (fun g gi s e b X => ⟨.inl (za_busiest g x y), g, gi, s, e, b, ⟨_, rfl⟩, X, fun h C => zcV C (ca_busiest C.1 X.1), fun h D => zrJ D (cb_busiest D.1 X.1)⟩)
theorem zz_comes (x y : Int32) : jc_ok jc_I 78 179 [.inl x, .inl y] := jc_mk (fun g gi s e b X => ⟨.inl (za_comes g s x y), zg_comes g s x y, gi, s, e, b, ⟨_, rfl⟩, ⟨jw_comes X.1 X.2.2.1 x y, X.2⟩, fun h C => zcB C (ca_comes C.2.1 X.2.2.1 C.1 X.1), fun h D => zrB D (cb_comes D.2.1 X.2.2.1 D.1 X.1)⟩)
theorem zz_frontier (x : Int32) : jc_ok jc_I 73 174 [.inl x] := jc_mk (fun g gi s e b X => ⟨.inl (za_frontier g s e x), zm_frontier g s e x, gi, s, e, b, ⟨_, rfl⟩, ⟨jw_frontier X.1 x, X.2⟩, fun h C => zcQ C (ca_frontier C.2.1 X.2.2.1 X.2.2.2.1 C.1 X.1), fun h D => zrR D (cb_frontier D.2.1 X.2.2.1 X.2.2.2.1 D.1 X.1)⟩)
theorem zz_whatIs (x y z : Int32) : jc_ok jc_I 107 211 [.inl x, .inl y, .inl z] := jc_mk (fun g gi s e b X => ⟨.inl (za_whatIs g s e x y z), g, gi, s, e, b, ⟨_, rfl⟩, X, fun h C => zcA C (ca_whatIs C.2.1 X.2.2.1 C.1 X.1), fun h D => zrA D (cb_whatIs D.2.1 X.2.2.1 D.1 X.1)⟩)
theorem zz_judge (x : Int32) : jc_ok jc_I 120 220 [.inl x] := jc_mk (fun g gi s e b X => ⟨.inl (za_judge g s e x), g, gi, s, e, b, ⟨_, rfl⟩, X, fun h C => zcA C (ca_judge C.2.1 X.2.2.1 C.1 X.1), fun h D => zrA D (cb_judge D.2.1 X.2.2.1 D.1 X.1)⟩)
theorem zz_forged (x y : Int32) : jc_ok jc_I 118 219 [.inl x, .inl y] := jc_mk (fun g gi s e b X => ⟨.inl (za_forged g s e x y), g, gi, s, e, b, ⟨_, rfl⟩, X, fun h C => zc0 C (ca_forged C.2.1 X.2.2.1 C.1 X.1), fun h D => zr0 D (cb_forged D.2.1 X.2.2.1 D.1 X.1)⟩)
theorem zz_cost (x : Int32) : jc_ok jc_I 131 236 [.inl x] := jc_mk (fun g gi s e b X => ⟨.inl (za_cost s x), g, gi, s, e, b, ⟨_, rfl⟩, X, fun h C => zc0 C (ck_cost C.2.1 X.2.2.1), fun h D => zr0 D (cl_cost D.2.1 X.2.2.1)⟩)
theorem zz_keep (x y z v : Int32) : jc_ok jc_I 127 230 [.inl x, .inl y, .inl z, .inl v] := jc_mk (fun g gi s e b X => ⟨.inl (za_keep x y z v), g, gi, zs_keep s x y z v, e, b, ⟨_, rfl⟩, ⟨X.1, X.2.1, kw_keep X.2.2.1 x y z v, ke_keep X.2.2.2.1 x y z v, X.2.2.2.2⟩, fun h C => zcS C (ck_keep C.2.1 X.2.2.1), fun h D => zrS D (cl_keep D.2.1 X.2.2.1)⟩)
theorem zz_row (x y z : Int32) : jc_ok jc_I 128 231 [.inl x, .inl y, .inl z] := jc_mk (fun g gi s e b X => ⟨.inl (za_row x y z), g, gi, zs_row s x y z, ze_row e x y z, b, ⟨_, rfl⟩, ⟨X.1, X.2.1, kw_row X.2.2.1 x y z, ke_row X.2.2.2.1 x y z, X.2.2.2.2⟩, fun h C => zcS C (ck_row C.2.1 X.2.2.1), fun h D => zrS D (cl_row D.2.1 X.2.2.1)⟩)
theorem zz_put (x y v : Int32) : jc_ok jc_I 129 232 [.inl x, .inl y, .inl v] := jc_mk (fun g gi s e b X => ⟨.inl (za_put s x y), g, gi, s, ze_put s e x y v, b, ⟨_, rfl⟩, ⟨X.1, X.2.1, X.2.2.1, ke_put X.2.2.2.1 x y v, X.2.2.2.2⟩, fun h C => zcS C (ck_put C.2.1 X.2.2.1), fun h D => zrS D (cl_put D.2.1 X.2.2.1)⟩)
theorem zz_copy (x y z v n : Int32) : jc_ok jc_I 130 234 [.inl x, .inl y, .inl z, .inl v, .inl n] := jc_mk (fun g gi s e b X => ⟨.inl (za_copy s x y z v n), g, gi, s, ze_copy s e x y z v n, b, ⟨_, rfl⟩, ⟨X.1, X.2.1, X.2.2.1, ke_copy X.2.2.2.1 X.2.2.1 x y z v n, X.2.2.2.2⟩, fun h C => zcS C (ck_copy C.2.1 X.2.2.1), fun h D => zrS D (cl_copy D.2.1 X.2.2.1)⟩)
theorem zz_image : jc_ok jc_I 124 223 [] := jc_mk (fun g gi s e b X => ⟨.inl (nI (g 3)), g, g, s, e, 1, ⟨_, rfl⟩, ⟨X.1, fun _ => X.1, X.2.2.1, X.2.2.2.1, Nat.le_refl 1⟩, fun h C => zcI C (ca_image C.1 X.1), fun h D => zrI D (cb_image D.1)⟩)
theorem zz_restore : jc_ok jc_I 125 224 [] := jc_mk (fun g gi s e b X => by
  rcases (show b = 0 ∨ b = 1 by have := X.2.2.2.2; omega) with q | q
  · subst q
    exact ⟨.inl (-3), g, gi, s, e, 0, ⟨_, rfl⟩, X, fun h C => zc0 C (ca_restore0 C.2.2.1), fun h D => zr0 D (cb_restore0 D.2.2.1)⟩
  · subst q
    exact ⟨.inl (nI (gi 3)), gi, gi, s, e, 1, ⟨_, rfl⟩, ⟨X.2.1 rfl, X.2⟩, fun h C => zcB C (ca_restore1 C.2.2.1 (C.2.2.2 rfl) (X.2.1 rfl)), fun h D => zrB D (cb_restore1 D.2.2.1 (D.2.2.2 rfl))⟩)
