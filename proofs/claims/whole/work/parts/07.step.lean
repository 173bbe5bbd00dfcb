/-! THE SMALL MACHINE: its steps. A cell's key: (kind of cell, number, part). Values: an int, a long, a cell. -/
abbrev jm_K : Type := Nat × Nat × Nat
abbrev jm_M : Type := jm_K → Nat → Int32
abbrev jm_V : Type := Int32 ⊕ (Int64 ⊕ jm_K)
abbrev jm_L : Type := List (Nat × jm_V)
abbrev jm_F : Type := Nat × jm_L × List jm_V × jm_M
/-- a shape: an object (number of its class; its slots: a cell for ever, or an int), a row of ints (its length), a row of cells (its type, length, which) -/
abbrev jm_SH : Type := (Nat × List (Option jm_K)) ⊕ (Nat ⊕ (Nat × Nat × (Nat → jm_K)))
abbrev jm_i (x : Int32) : jm_V := .inl x
abbrev jm_l (x : Int64) : jm_V := .inr (.inl x)
abbrev jm_r (t j k : Nat) : jm_V := .inr (.inr (t, j, k))
def jm_set (h : jm_M) (c : jm_K) (f : Nat → Int32) : jm_M := fun a => if a = c then f else h a
/-- the classes of the kinds of cats -/
def jm_kc : List Nat := [0, 3, 8, 9, 2, 6, 7, 4]
def jm_sh (c : jm_K) : Option jm_SH := match c.1 with
  | 0 => (match c.2.2 with
    | 0 => some (.inl (10, [some (0, 0, 1), some (2, 0, 0), some (2, 1, 0), some (2, 2, 0), none, some (0, 0, 2), some (0, 0, 3)]))
    | 1 => some (.inr (.inr (1, 8, fun i => (1, i, 0))))
    | 2 => some (.inr (.inr (2, 8, fun i => (3, i, 0))))
    | 3 => some (.inr (.inl 16))
    | _ => none)
  | 1 => (match jm_kc[c.2.1]? with
    | some ci => some (.inl (ci, []))
    | none => none)
  | 2 => (match c.2.2 with
    | 0 => some (.inl (1, [some (0, 0, 1), some (2, c.2.1, 1), some (2, c.2.1, 2), some (2, c.2.1, 3), some (2, c.2.1, 4), some (2, c.2.1, 5), some (2, c.2.1, 6), some (6, c.2.1, 0), some (6, c.2.1, 1), none, none, none, none, none, none]))
    | _ => some (.inr (.inl 6)))
  | 3 => (match c.2.2 with
    | 0 => some (.inl (5, [none, none, none, none, none, some (3, c.2.1, 1)]))
    | _ => some (.inr (.inl 100)))
  | 4 => (match c.2.2 with
    | 0 => some (.inl (11, [some (5, 0, 0), some (5, 1, 0), some (5, 2, 0), some (5, 3, 0), none, none, none, none, some (4, 0, 1), some (4, 0, 2), none, some (4, 0, 3), some (4, 0, 4), some (4, 0, 5), some (4, 0, 6), some (4, 0, 7), some (4, 0, 8), none]))
    | 1 => some (.inr (.inl 3))
    | 2 => some (.inr (.inl 16))
    | 8 => some (.inr (.inl 800))
    | _ => some (.inr (.inl 8)))
  | 5 => some (.inr (.inl 78))
  | _ => some (.inr (.inl 16))
/-- all the cells -/
def jm_ks : List jm_K := [(0, 0, 0), (0, 0, 1), (0, 0, 2), (0, 0, 3), (1, 0, 0), (1, 1, 0), (1, 2, 0), (1, 3, 0), (1, 4, 0), (1, 5, 0), (1, 6, 0), (1, 7, 0),
  (2, 0, 0), (2, 0, 1), (2, 0, 2), (2, 0, 3), (2, 0, 4), (2, 0, 5), (2, 0, 6), (6, 0, 0), (6, 0, 1),
  (2, 1, 0), (2, 1, 1), (2, 1, 2), (2, 1, 3), (2, 1, 4), (2, 1, 5), (2, 1, 6), (6, 1, 0), (6, 1, 1),
  (2, 2, 0), (2, 2, 1), (2, 2, 2), (2, 2, 3), (2, 2, 4), (2, 2, 5), (2, 2, 6), (6, 2, 0), (6, 2, 1),
  (3, 0, 0), (3, 0, 1), (3, 1, 0), (3, 1, 1), (3, 2, 0), (3, 2, 1), (3, 3, 0), (3, 3, 1), (3, 4, 0), (3, 4, 1), (3, 5, 0), (3, 5, 1), (3, 6, 0), (3, 6, 1), (3, 7, 0), (3, 7, 1),
  (4, 0, 0), (5, 0, 0), (5, 1, 0), (5, 2, 0), (5, 3, 0), (4, 0, 1), (4, 0, 2), (4, 0, 3), (4, 0, 4), (4, 0, 5), (4, 0, 6), (4, 0, 7), (4, 0, 8)]
/-- the slots that hold a boolean -/
def jm_bo (ci k : Nat) : Bool := (ci == 10 || ci == 11) && k == 4
def jm_cat : jm_V → Nat
  | .inr (.inl _) => 2
  | _ => 1
def jm_lk {α : Type} (t : List (List (Nat × α))) (own idx : Nat) : Option α := match t[own]? with
  | some l => l.lookup idx
  | none => none
def jm_put1 (i : Nat) (v : jm_V) (L : jm_L) : jm_L := (i, v) :: L.filter (fun q => !(q.1 == i) && !(q.1 + 1 == i && jm_cat q.2 == 2))
def jm_put2 (i : Nat) (v : jm_V) (L : jm_L) : jm_L := (i, v) :: L.filter (fun q => !(q.1 == i) && (!(q.1 == i + 1) && !(q.1 + 1 == i && jm_cat q.2 == 2)))
def jm_tg (pc : Nat) (off : Int) : Nat := ((pc : Int) + off).toNat
def jm_br (c : ClassFile.Cond) (x y : Int32) (t e : Nat) : Nat := match c with
  | .eq => if x = y then t else e
  | .ne => if x = y then e else t
  | .lt => if x < y then t else e
  | .ge => if y ≤ x then t else e
  | .gt => if y < x then t else e
  | .le => if x ≤ y then t else e
def jm_ts (pc : Nat) (d : Int) (x : Int32) : Int → List Int → Nat
  | _, [] => jm_tg pc d
  | k, o :: t => if x = Int32.ofInt k then jm_tg pc o else jm_ts pc d x (k + 1) t
def jm_ls (pc : Nat) (d : Int) (x : Int32) : List (Int × Int) → Nat
  | [] => jm_tg pc d
  | q :: t => if x = Int32.ofInt q.1 then jm_tg pc q.2 else jm_ls pc d x t
/-- loads: the local's value, if it is of the wanted sort (0 int, 1 long, 2 cell) -/
def jm_ld (w i n : Nat) (f : jm_F) : Option (Option Prop × jm_F) := match w, f.2.1.lookup i with
  | 0, some (.inl x) => some (none, f.1 + n, f.2.1, .inl x :: f.2.2.1, f.2.2.2)
  | 1, some (.inr (.inl x)) => some (none, f.1 + n, f.2.1, .inr (.inl x) :: f.2.2.1, f.2.2.2)
  | 2, some (.inr (.inr x)) => some (none, f.1 + n, f.2.1, .inr (.inr x) :: f.2.2.1, f.2.2.2)
  | _, _ => none
def jm_sto (w i n : Nat) (f : jm_F) : Option (Option Prop × jm_F) := match w, f.2.2.1 with
  | 0, .inl x :: st => some (none, f.1 + n, jm_put1 i (.inl x) f.2.1, st, f.2.2.2)
  | 1, .inr (.inl x) :: st => some (none, f.1 + n, jm_put2 i (.inr (.inl x)) f.2.1, st, f.2.2.2)
  | 2, .inr (.inr x) :: st => some (none, f.1 + n, jm_put1 i (.inr (.inr x)) f.2.1, st, f.2.2.2)
  | _, _ => none
def jm_ii (g : Int32 → Int32 → Int32) (q : Int32 → Option Prop) (f : jm_F) : Option (Option Prop × jm_F) := match f.2.2.1 with
  | .inl y :: .inl x :: st => some (q y, f.1 + 1, f.2.1, .inl (g x y) :: st, f.2.2.2)
  | _ => none
def jm_ll (g : Int64 → Int64 → Int64) (q : Int64 → Option Prop) (f : jm_F) : Option (Option Prop × jm_F) := match f.2.2.1 with
  | .inr (.inl y) :: .inr (.inl x) :: st => some (q y, f.1 + 1, f.2.1, .inr (.inl (g x y)) :: st, f.2.2.2)
  | _ => none
def jm_u1 (g : Int32 → Int32) (f : jm_F) : Option (Option Prop × jm_F) := match f.2.2.1 with
  | .inl x :: st => some (none, f.1 + 1, f.2.1, .inl (g x) :: st, f.2.2.2)
  | _ => none
def jm_getf (own idx : Nat) (f : jm_F) : Option (Option Prop × jm_F) := match f.2.2.1 with
  | .inr (.inr c) :: st => (match jm_lk jm_fl own idx, jm_sh c with
    | some (ci, k, _), some (.inl (ci', fs)) => if ci = ci' then (match fs[k]? with
      | some (some q) => some (none, f.1 + 3, f.2.1, .inr (.inr q) :: st, f.2.2.2)
      | some none => some (none, f.1 + 3, f.2.1, .inl (f.2.2.2 c k) :: st, f.2.2.2)
      | none => none) else none
    | _, _ => none)
  | _ => none
def jm_putf (own idx : Nat) (f : jm_F) : Option (Option Prop × jm_F) := match f.2.2.1 with
  | .inl v :: .inr (.inr c) :: st => (match jm_lk jm_fl own idx, jm_sh c with
    | some (ci, k, _), some (.inl (ci', fs)) => if ci = ci' then (match fs[k]? with
      | some none => some (if jm_bo ci k = true then some (v = 0 ∨ v = 1) else none, f.1 + 3, f.2.1, st, jm_set f.2.2.2 c (upd (f.2.2.2 c) k v))
      | _ => none) else none
    | _, _ => none)
  | _ => none
def jm_iald (f : jm_F) : Option (Option Prop × jm_F) := match f.2.2.1 with
  | .inl i :: .inr (.inr c) :: st => (match jm_sh c with
    | some (.inr (.inl n)) => some (some (vp_in i n), f.1 + 1, f.2.1, .inl (f.2.2.2 c i.toNatClampNeg) :: st, f.2.2.2)
    | _ => none)
  | _ => none
def jm_iast (f : jm_F) : Option (Option Prop × jm_F) := match f.2.2.1 with
  | .inl v :: .inl i :: .inr (.inr c) :: st => (match jm_sh c with
    | some (.inr (.inl n)) => some (some (vp_in i n), f.1 + 1, f.2.1, st, jm_set f.2.2.2 c (upd (f.2.2.2 c) i.toNatClampNeg v))
    | _ => none)
  | _ => none
def jm_aald (f : jm_F) : Option (Option Prop × jm_F) := match f.2.2.1 with
  | .inl i :: .inr (.inr c) :: st => (match jm_sh c with
    | some (.inr (.inr (_, n, g))) => some (some (vp_in i n), f.1 + 1, f.2.1, .inr (.inr (g i.toNatClampNeg)) :: st, f.2.2.2)
    | _ => none)
  | _ => none
def jm_alen (f : jm_F) : Option (Option Prop × jm_F) := match f.2.2.1 with
  | .inr (.inr c) :: st => (match jm_sh c with
    | some (.inr (.inl n)) => some (none, f.1 + 1, f.2.1, .inl (Int32.ofNat n) :: st, f.2.2.2)
    | _ => none)
  | _ => none
def jm_wsum (st : List jm_V) : Nat := (st.map jm_cat).sum
/-- System.arraycopy over rows of ints, Math.max, min, abs -/
def jm_lib (own idx : Nat) (f : jm_F) : Option (Option Prop × jm_F) := match jm_lk jm_acp own idx, jm_lk jm_mth own idx, f.2.2.1 with
  | some _, _, .inl n :: .inl dp :: .inr (.inr c1) :: .inl sp :: .inr (.inr c0) :: st => (match jm_sh c0, jm_sh c1 with
    | some (.inr (.inl n0)), some (.inr (.inl n1)) => if jm_wsum st ≤ 8 then some (some (¬ sp < 0 ∧ ¬ dp < 0 ∧ ¬ n < 0 ∧ sp.toNatClampNeg + n.toNatClampNeg ≤ n0 ∧ dp.toNatClampNeg + n.toNatClampNeg ≤ n1), f.1 + 3, f.2.1, st, jm_set f.2.2.2 c1 (va_cpy (f.2.2.2 c0) (f.2.2.2 c1) sp.toNatClampNeg dp.toNatClampNeg n.toNatClampNeg)) else none
    | _, _ => none)
  | none, some (0, _), .inl y :: .inl x :: st => if jm_wsum st ≤ 8 then some (none, f.1 + 3, f.2.1, .inl (if x < y then y else x) :: st, f.2.2.2) else none
  | none, some (1, _), .inl y :: .inl x :: st => if jm_wsum st ≤ 8 then some (none, f.1 + 3, f.2.1, .inl (if y < x then y else x) :: st, f.2.2.2) else none
  | none, some (2, _), .inl x :: st => if jm_wsum st ≤ 8 then some (none, f.1 + 3, f.2.1, .inl (if 0 ≤ x then x else 0 - x) :: st, f.2.2.2) else none
  | _, _, _ => none
def jm_step (own : Nat) (i : Instr) (n : Nat) (v : Int32) (f : jm_F) : Option (Option Prop × jm_F) := match i with
  | .iconst _ | .bipush _ | .sipush _ | .ldc _ | .ldc_w _ => some (none, f.1 + n, f.2.1, .inl v :: f.2.2.1, f.2.2.2)
  | .lconst k => some (none, f.1 + n, f.2.1, .inr (.inl (Int64.ofNat (k : Nat))) :: f.2.2.1, f.2.2.2)
  | .ldc2_w idx => (match jm_lk jm_conL own idx with
    | some (x, _) => some (none, f.1 + n, f.2.1, .inr (.inl x) :: f.2.2.1, f.2.2.2)
    | none => none)
  | .iload k => jm_ld 0 k n f
  | .iload_n k => jm_ld 0 k n f
  | .lload k => jm_ld 1 k n f
  | .lload_n k => jm_ld 1 k n f
  | .aload k => jm_ld 2 k n f
  | .aload_n k => jm_ld 2 k n f
  | .istore k => jm_sto 0 k n f
  | .istore_n k => jm_sto 0 k n f
  | .lstore k => jm_sto 1 k n f
  | .lstore_n k => jm_sto 1 k n f
  | .astore k => jm_sto 2 k n f
  | .astore_n k => jm_sto 2 k n f
  | .iinc k _ => (match f.2.1.lookup k with
    | some (.inl x) => some (none, f.1 + n, jm_put1 k (.inl (x + v)) f.2.1, f.2.2.1, f.2.2.2)
    | _ => none)
  | .iadd => jm_ii (fun x y => x + y) (fun _ => none) f
  | .isub => jm_ii (fun x y => x - y) (fun _ => none) f
  | .imul => jm_ii (fun x y => x * y) (fun _ => none) f
  | .iand => jm_ii (fun x y => x &&& y) (fun _ => none) f
  | .ior => jm_ii (fun x y => x ||| y) (fun _ => none) f
  | .ixor => jm_ii (fun x y => x ^^^ y) (fun _ => none) f
  | .ishl => jm_ii (fun x y => x <<< (y &&& 31)) (fun _ => none) f
  | .ishr => jm_ii (fun x y => x >>> (y &&& 31)) (fun _ => none) f
  | .iushr => jm_ii (fun x y => (x.toUInt32 >>> (y.toUInt32 &&& Int32.toUInt32 31)).toInt32) (fun _ => none) f
  | .idiv => jm_ii (fun x y => x / y) (fun y => some (¬ y = 0)) f
  | .irem => jm_ii (fun x y => x - x / y * y) (fun y => some (¬ y = 0)) f
  | .ineg => jm_u1 (fun x => -x) f
  | .i2b => jm_u1 (fun x => x.toInt8.toInt32) f
  | .i2s => jm_u1 (fun x => x.toInt16.toInt32) f
  | .i2l => (match f.2.2.1 with
    | .inl x :: st => some (none, f.1 + 1, f.2.1, .inr (.inl x.toInt64) :: st, f.2.2.2)
    | _ => none)
  | .ladd => jm_ll (fun x y => x + y) (fun _ => none) f
  | .lmul => jm_ll (fun x y => x * y) (fun _ => none) f
  | .ldiv => jm_ll (fun x y => x / y) (fun y => some (¬ y = 0)) f
  | .lrem => jm_ll (fun x y => x - x / y * y) (fun y => some (¬ y = 0)) f
  | .lcmp => (match f.2.2.1 with
    | .inr (.inl y) :: .inr (.inl x) :: st => some (none, f.1 + 1, f.2.1, .inl (lg_cmp x y) :: st, f.2.2.2)
    | _ => none)
  | .dup => (match f.2.2.1 with
    | .inl x :: st => some (none, f.1 + 1, f.2.1, .inl x :: .inl x :: st, f.2.2.2)
    | .inr (.inr x) :: st => some (none, f.1 + 1, f.2.1, .inr (.inr x) :: .inr (.inr x) :: st, f.2.2.2)
    | _ => none)
  | .pop => (match f.2.2.1 with
    | .inl _ :: st => some (none, f.1 + 1, f.2.1, st, f.2.2.2)
    | _ => none)
  | .dup2 => (match f.2.2.1 with
    | .inl y :: .inr (.inr x) :: st => some (none, f.1 + 1, f.2.1, .inl y :: .inr (.inr x) :: .inl y :: .inr (.inr x) :: st, f.2.2.2)
    | _ => none)
  | .goto o => some (none, jm_tg f.1 o, f.2.1, f.2.2.1, f.2.2.2)
  | .ifCond c o => (match f.2.2.1 with
    | .inl x :: st => some (none, jm_br c x 0 (jm_tg f.1 o) (f.1 + 3), f.2.1, st, f.2.2.2)
    | _ => none)
  | .if_icmp c o => (match f.2.2.1 with
    | .inl y :: .inl x :: st => some (none, jm_br c x y (jm_tg f.1 o) (f.1 + 3), f.2.1, st, f.2.2.2)
    | _ => none)
  | .tableswitch d lo _ os => (match f.2.2.1 with
    | .inl x :: st => some (none, jm_ts f.1 d x lo os.toList, f.2.1, st, f.2.2.2)
    | _ => none)
  | .lookupswitch d ps => (match f.2.2.1 with
    | .inl x :: st => some (none, jm_ls f.1 d x ps.toList, f.2.1, st, f.2.2.2)
    | _ => none)
  | .getfield idx => jm_getf own idx f
  | .putfield idx => jm_putf own idx f
  | .iaload => jm_iald f
  | .iastore => jm_iast f
  | .aaload => jm_aald f
  | .arraylength => jm_alen f
  | .invokestatic idx => jm_lib own idx f
  | _ => none
/-- a call: the method run, its arguments (the receiver first), what stays on the stack -/
def jm_call (own : Nat) (i : Instr) (st : List jm_V) : Option (Nat × List jm_V × List jm_V) := match i with
  | .invokestatic idx => (match jm_lk jm_cs own idx with
    | some (kd, n, [t]) => if kd ≤ 1 ∧ n ≤ st.length then some (t.2.1, (st.take n).reverse, st.drop n) else none
    | _ => none)
  | .invokespecial idx => (match jm_lk jm_cs own idx, st.drop (((jm_lk jm_cs own idx).map (fun q => q.2.1)).getD 0) with
    | some (4, n, [t]), .inr (.inr c) :: r => (match jm_sh c with
      | some (.inl _) => some (t.2.1, .inr (.inr c) :: (st.take n).reverse, r)
      | _ => none)
    | _, _ => none)
  | .invokevirtual idx => (match jm_lk jm_cs own idx, st.drop (((jm_lk jm_cs own idx).map (fun q => q.2.1)).getD 0) with
    | some (kd, n, ts), .inr (.inr c) :: r => (match jm_sh c with
      | some (.inl (ci, _)) => (match ts.lookup ci with
        | some t => if kd = 2 ∨ kd = 3 then some (t.1, .inr (.inr c) :: (st.take n).reverse, r) else none
        | none => none)
      | _ => none)
    | _, _ => none)
  | _ => none
def jm_args : Nat → List jm_V → jm_L
  | _, [] => []
  | i, v :: vs => (i, v) :: jm_args (if jm_cat v = 2 then i + 2 else i + 1) vs
/-- the end of a method: what it returns -/
def jm_ret (ty : Option FieldType) (i : Instr) (st : List jm_V) : Option (Prop × Option jm_V) := match i, ty, st with
  | .return_, none, [] => some (True, none)
  | .ireturn, some .int, [.inl x] => some (True, some (.inl x))
  | .ireturn, some .boolean, [.inl x] => some (x = 0 ∨ x = 1, some (.inl x))
  | .lreturn, some .long, [.inr (.inl x)] => some (True, some (.inr (.inl x)))
  | _, _, _ => none
def jm_fit (r r' : jm_MT) (as rest : List jm_V) : Bool := decide (r'.2.2.2.2.1 + 1 ≤ r.2.2.2.2.1) && decide (8 + (r'.2.2.1 + 11) + r'.2.2.2.2.2.1 ≤ r.2.2.2.2.2.1) && decide (jm_wsum rest ≤ 8) && decide (jm_wsum as ≤ r'.2.2.1)
def jm_pick (l : jm_L) (ks : List Nat) : jm_L := ks.filterMap (fun k => l[k]?)
def jm_hold (c : Option Prop) : Prop := match c with
  | some p => p
  | none => True
/-- in at most n steps, calls and all, the method mi comes from the frame f to its end -/
def jm_Rn : Nat → Nat → jm_F → (Option jm_V × jm_M) → Prop
  | 0, _, _, _ => False
  | n + 1, mi, f, out => (∃ ks : List Nat, jm_Rn n mi (f.1, jm_pick f.2.1 ks, f.2.2) out) ∨
    ∃ (r : jm_MT) (il : List jm_IT) (i : Instr) (len : Nat) (v : Int32), jm_mt[mi]? = some r ∧ jm_is[mi]? = some il ∧ il.lookup f.1 = some (i, len, v) ∧
      ((∃ (c : Option Prop) (f' : jm_F), jm_step r.2.2.2.2.2.2 i len v f = some (c, f') ∧ jm_hold c ∧ jm_Rn n mi f' out) ∨
       (∃ (mi' : Nat) (r' : jm_MT) (as rest : List jm_V) (u : Option jm_V) (h' : jm_M), jm_call r.2.2.2.2.2.2 i f.2.2.1 = some (mi', as, rest) ∧ jm_mt[mi']? = some r' ∧ jm_fit r r' as rest = true ∧ jm_Rn n mi' (0, jm_args 0 as, [], f.2.2.2) (u, h') ∧ jm_Rn n mi (f.1 + 3, f.2.1, u.toList ++ rest, h') out) ∨
       (∃ (c : Prop) (u : Option jm_V), jm_ret r.2.2.2.1 i f.2.2.1 = some (c, u) ∧ c ∧ out = (u, f.2.2.2)))
