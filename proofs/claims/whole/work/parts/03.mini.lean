/-! THE SMALL MACHINE: what the methods of class and reference do, over a memory of ints whose cells have fixed shapes. This part: its tables' types and their checks. -/
/-- a method: name, code, locals, what it returns, room (frames, words), number of the class that owns it -/
abbrev jm_MT : Type := MethodName × ByteArray × Nat × Option FieldType × Nat × Nat × Nat
/-- an instruction: where, which, its length, the constant that it bears (0 if none) -/
abbrev jm_IT : Type := Nat × Instr × Nat × Int32
/-- a call: kind, parameters, the receiver's class with the method run and the places of the words -/
abbrev jm_CE : Type := Nat × Nat × List (Nat × Nat × List Nat)
/-- the word w stands at place i of the tables, and calls keep it -/
def jm_at (i : Nat) (w : Cond) : Bool := decide (lw_tbl[i]? = some w) && goodWord w
def jm_T : List Cond := lw_tbl.filter goodWord
theorem jm_at_T {i : Nat} {w : Cond} (h : jm_at i w = true) : w ∈ jm_T := by
  simp only [jm_at, Bool.and_eq_true, decide_eq_true_eq] at h
  exact List.mem_filter.mpr ⟨List.mem_of_getElem? h.1, h.2⟩
def jm_len : Instr → Nat
  | .bipush _ | .iload _ | .lload _ | .aload _ | .istore _ | .lstore _ | .astore _ | .ldc _ => 2
  | .sipush _ | .iinc _ _ | .getfield _ | .putfield _ | .invokestatic _ | .invokevirtual _ | .invokespecial _ | .goto _ | .ifCond _ _ | .if_icmp _ _ | .ldc_w _ | .ldc2_w _ => 3
  | _ => 1
def jm_sw : Instr → Bool
  | .tableswitch _ _ _ _ | .lookupswitch _ _ => true
  | _ => false
/-- every place that the instruction may jump to is a Nat; a lookupswitch is in order -/
def jm_offok (pc : Nat) : Instr → Bool
  | .goto o | .ifCond _ o | .if_icmp _ o => decide (0 ≤ (pc : Int) + o)
  | .tableswitch d lo hi os => decide (0 ≤ (pc : Int) + d) && os.toList.all (fun o => decide (0 ≤ (pc : Int) + o)) && decide (hi = lo + (os.size : Int) - 1) && decide (-2147483648 ≤ lo) && decide (hi ≤ 2147483647)
  | .lookupswitch d ps => decide (0 ≤ (pc : Int) + d) && ps.toList.all (fun q => decide (0 ≤ (pc : Int) + q.2) && decide (-2147483648 ≤ q.1) && decide (q.1 ≤ 2147483647)) && (ps.toList.zip (ps.toList.drop 1)).all (fun (a, next) => a.1 < next.1)
  | _ => true
def jm_cval (con : List (Nat × Int32 × Nat)) (v : Int32) : Instr → Bool
  | .iconst k => decide (Int32.ofInt k = v)
  | .bipush k => decide ((Int8.ofInt k).toInt32 = v)
  | .sipush k => decide ((Int16.ofInt k).toInt32 = v)
  | .iinc _ k => decide (Int32.ofInt k = v)
  | .ldc i | .ldc_w i => decide ((con.lookup i).map (fun q => q.1) = some v)
  | _ => true
def jm_inok (con : List (Nat × Int32 × Nat)) (code : ByteArray) (q : jm_IT) : Bool :=
  decide (decode code q.1 = .ok (q.2.1, q.2.2.1)) && (decide (q.2.2.1 = jm_len q.2.1) || jm_sw q.2.1) && jm_offok q.1 q.2.1 && jm_cval con q.2.2.2 q.2.1
def jm_mtok (q : jm_MT × Nat) : Bool := jm_at q.2 (.code q.1.1 q.1.2.1 q.1.2.2.1 q.1.2.2.2.1) && plainName q.1.1.cls
def jm_nm (ci : Nat) : String := match jm_cl0[ci]? with
  | some q => q.1
  | none => ""
def jm_fT (ci : Nat) : u_T := match jm_cl0[ci]? with
  | some q => q.2.1
  | none => fun _ => ("", "", "", false)
def jm_flok (own : String) (q : Nat × Nat × Nat × Nat) : Bool :=
  jm_at q.2.2.2 (.fieldLink own q.1 (jm_fT q.2.1 q.2.2.1).1 (jm_fT q.2.1 q.2.2.1).2.1 (jm_fT q.2.1 q.2.2.1).2.2.1) && decide (q.2.2.1 < ((jm_cl0[q.2.1]?).map (fun z => z.2.2)).getD 0)
def jm_conok (own : String) (q : Nat × Int32 × Nat) : Bool := jm_at q.2.2 (.constant own q.1 q.2.1)
def jm_conLok (own : String) (q : Nat × Int64 × Nat) : Bool := jm_at q.2.2 (.constantLong own q.1 q.2.1)
def jm_acpok (own : String) (q : Nat × Nat) : Bool := jm_at q.2 (.methodLink own q.1 arraycopyName)
def jm_mthok (own : String) (q : Nat × Nat × List Nat) : Bool := match q.2.1, q.2.2 with
  | 0, [a, b, c, d] => jm_at a (.methodLink own q.1 Lib.Math.max.name) && jm_at b (.static Lib.Math.max.name) && jm_at c (.initialized "java/lang/Math") && jm_at d (.code Lib.Math.max.name Lib.Math.max.code 2 (some .int))
  | 1, [a, b, c, d] => jm_at a (.methodLink own q.1 Lib.Math.min.name) && jm_at b (.static Lib.Math.min.name) && jm_at c (.initialized "java/lang/Math") && jm_at d (.code Lib.Math.min.name Lib.Math.min.code 2 (some .int))
  | 2, [a, b, c, d] => jm_at a (.methodLink own q.1 Lib.Math.abs.name) && jm_at b (.static Lib.Math.abs.name) && jm_at c (.initialized "java/lang/Math") && jm_at d (.code Lib.Math.abs.name Lib.Math.abs.code 1 (some .int))
  | _, _ => false
/-- the links of nest mates: calls keep them, but by a law of their own -/
def jm_isN : Cond → Bool
  | .methodLinkNest _ _ _ _ => true
  | _ => false
def jm_N : List Cond := lw_tbl.filter jm_isN
def jm_atN (i : Nat) (w : Cond) : Bool := decide (lw_tbl[i]? = some w) && jm_isN w
theorem jm_at_N {i : Nat} {w : Cond} (h : jm_atN i w = true) : w ∈ jm_N := by
  simp only [jm_atN, Bool.and_eq_true, decide_eq_true_eq] at h
  exact List.mem_filter.mpr ⟨List.mem_of_getElem? h.1, h.2⟩
def jm_par (y : MethodName) (n : Nat) : Bool := decide (y.cls ≠ "java/lang/invoke/MethodHandle") && decide (y.cls ≠ "java/lang/invoke/VarHandle") && decide ((parseMethodDescriptor y.desc).map (fun d => d.parameters.length) = some n)
/-- the words of a call, by its kind -/
def jm_cok1 (own : String) (idx kd n ci : Nat) (y : MethodName) (ps : List Nat) : Bool := jm_par y n && match kd, ps with
  | 0, [a, b, c] => jm_at a (.methodLink own idx y) && jm_at b (.static y) && jm_at c (.initialized y.cls)
  | 1, [a, b, c] => jm_atN a (.methodLinkNest own idx y "PapersAreOnCats") && jm_at b (.static y) && jm_at c (.initialized y.cls)
  | 2, [a, b, c, d] => jm_at a (.methodLink own idx y) && jm_at b (.instanceMethod y) && jm_at c (.selects (jm_nm ci) y y) && jm_at d (.initialized y.cls) && decide (y.cls = jm_nm ci)
  | 3, [a, b, c, d, f, g, z] => jm_at a (.methodLink own idx ⟨"PapersAreOnCats$Cat", y.name, y.desc⟩) && jm_at b (.sameMethod "PapersAreOnCats$Cat" "PapersAreOnCats$Cat" y.name y.desc) && jm_at c (.instanceMethod ⟨"PapersAreOnCats$Cat", y.name, y.desc⟩) && jm_at d (.selects (jm_nm ci) ⟨"PapersAreOnCats$Cat", y.name, y.desc⟩ y) && jm_at f (.instanceMethod y) && jm_at g (.initialized y.cls) && (match lw_tbl[z]? with
    | some (.code x b0 m0 r0) => decide (x = ⟨"PapersAreOnCats$Cat", y.name, y.desc⟩) && goodWord (.code x b0 m0 r0)
    | _ => false)
  | 4, [a, b, c, d, f] => jm_at a (.methodLink own idx y) && jm_at b (.sameMethod y.cls y.cls y.name y.desc) && jm_at c (.superclass own y.cls) && jm_at d (.instanceMethod y) && jm_at f (.initialized y.cls) && decide (y.name ≠ "<init>")
  | _, _ => false
def jm_cok (mt : List jm_MT) (own : String) (q : Nat × jm_CE) : Bool := q.2.2.2.all (fun t => match mt[t.2.1]? with
  | some r => jm_cok1 own q.1 q.2.1 q.2.2.1 t.1 r.1 t.2.2
  | none => false)
