section
-- ===== PART A: goes FIRST, ahead of the names: the tables' words, and 'selects' of the private methods out of them =====
/-- a private method of a class that the tables say can be made, by its rows of tables_1 -/
def lw_okq (q : MethodName × Nat) : Prop := (q.1.cls ≠ "java/lang/invoke/MethodHandle" ∧ q.1.cls ≠ "java/lang/invoke/VarHandle") ∧ Cond.instantiable q.1.cls q.2 ∈ tables_1 ∧ Cond.privateMethod q.1 ∈ tables_1 ∧ Cond.instanceMethod q.1 ∈ tables_1
theorem lw_p0 : lw_okq (⟨"PapersAreOnCats", "refusalOfRow", "(I)I"⟩, 7) := ⟨⟨by decide +kernel, by decide +kernel⟩, List.mem_of_getElem? (i := 24) (by decide +kernel), List.mem_of_getElem? (i := 227) (by decide +kernel), List.mem_of_getElem? (i := 228) (by decide +kernel)⟩
theorem lw_p1 : lw_okq (⟨"PapersAreOnCats", "refusalUnlessHeld", "(II)I"⟩, 7) := ⟨⟨by decide +kernel, by decide +kernel⟩, List.mem_of_getElem? (i := 24) (by decide +kernel), List.mem_of_getElem? (i := 231) (by decide +kernel), List.mem_of_getElem? (i := 232) (by decide +kernel)⟩
theorem lw_p2 : lw_okq (⟨"PapersAreOnCats", "carryOut", "(LPapersAreOnCats$Shelf;)I"⟩, 7) := ⟨⟨by decide +kernel, by decide +kernel⟩, List.mem_of_getElem? (i := 24) (by decide +kernel), List.mem_of_getElem? (i := 255) (by decide +kernel), List.mem_of_getElem? (i := 256) (by decide +kernel)⟩
theorem lw_p3 : lw_okq (⟨"PapersAreOnCats$Frontier", "go", "(I)V"⟩, 15) := ⟨⟨by decide +kernel, by decide +kernel⟩, List.mem_of_getElem? (i := 92) (by decide +kernel), List.mem_of_getElem? (i := 333) (by decide +kernel), List.mem_of_getElem? (i := 334) (by decide +kernel)⟩
theorem lw_p4 : lw_okq (⟨"PapersAreOnCats$Frontier", "letPass", "(II)V"⟩, 15) := ⟨⟨by decide +kernel, by decide +kernel⟩, List.mem_of_getElem? (i := 92) (by decide +kernel), List.mem_of_getElem? (i := 432) (by decide +kernel), List.mem_of_getElem? (i := 433) (by decide +kernel)⟩
theorem lw_p5 : lw_okq (⟨"PapersAreOnCats$Frontier", "turnClock", "()V"⟩, 15) := ⟨⟨by decide +kernel, by decide +kernel⟩, List.mem_of_getElem? (i := 92) (by decide +kernel), List.mem_of_getElem? (i := 458) (by decide +kernel), List.mem_of_getElem? (i := 459) (by decide +kernel)⟩
theorem lw_p6 : lw_okq (⟨"PapersAreOnCats", "refusalOfKind", "(I)I"⟩, 7) := ⟨⟨by decide +kernel, by decide +kernel⟩, List.mem_of_getElem? (i := 24) (by decide +kernel), List.mem_of_getElem? (i := 493) (by decide +kernel), List.mem_of_getElem? (i := 494) (by decide +kernel)⟩
theorem lw_p7 : lw_okq (⟨"PapersAreOnCats", "lookAhead", "(I)V"⟩, 7) := ⟨⟨by decide +kernel, by decide +kernel⟩, List.mem_of_getElem? (i := 24) (by decide +kernel), List.mem_of_getElem? (i := 537) (by decide +kernel), List.mem_of_getElem? (i := 538) (by decide +kernel)⟩
theorem lw_p8 : lw_okq (⟨"PapersAreOnCats", "hoursTillPassed", "(I)I"⟩, 7) := ⟨⟨by decide +kernel, by decide +kernel⟩, List.mem_of_getElem? (i := 24) (by decide +kernel), List.mem_of_getElem? (i := 566) (by decide +kernel), List.mem_of_getElem? (i := 567) (by decide +kernel)⟩
theorem lw_p9 : lw_okq (⟨"PapersAreOnCats", "hoursTillPassedBy", "(II)I"⟩, 7) := ⟨⟨by decide +kernel, by decide +kernel⟩, List.mem_of_getElem? (i := 24) (by decide +kernel), List.mem_of_getElem? (i := 578) (by decide +kernel), List.mem_of_getElem? (i := 579) (by decide +kernel)⟩
theorem lw_p10 : lw_okq (⟨"PapersAreOnCats", "hoursTillAt", "(II)I"⟩, 7) := ⟨⟨by decide +kernel, by decide +kernel⟩, List.mem_of_getElem? (i := 24) (by decide +kernel), List.mem_of_getElem? (i := 595) (by decide +kernel), List.mem_of_getElem? (i := 596) (by decide +kernel)⟩
theorem lw_p11 : lw_okq (⟨"PapersAreOnCats", "couldPass", "(I)Z"⟩, 7) := ⟨⟨by decide +kernel, by decide +kernel⟩, List.mem_of_getElem? (i := 24) (by decide +kernel), List.mem_of_getElem? (i := 607) (by decide +kernel), List.mem_of_getElem? (i := 608) (by decide +kernel)⟩
theorem lw_p12 : lw_okq (⟨"PapersAreOnCats", "countVisits", "(I)V"⟩, 7) := ⟨⟨by decide +kernel, by decide +kernel⟩, List.mem_of_getElem? (i := 24) (by decide +kernel), List.mem_of_getElem? (i := 636) (by decide +kernel), List.mem_of_getElem? (i := 637) (by decide +kernel)⟩
theorem lw_p13 : lw_okq (⟨"PapersAreOnCats", "suppose", "(III)V"⟩, 7) := ⟨⟨by decide +kernel, by decide +kernel⟩, List.mem_of_getElem? (i := 24) (by decide +kernel), List.mem_of_getElem? (i := 655) (by decide +kernel), List.mem_of_getElem? (i := 656) (by decide +kernel)⟩
theorem lw_p14 : lw_okq (⟨"PapersAreOnCats", "goesAsTold", "(LPapersAreOnCats$Shelf;I)Z"⟩, 7) := ⟨⟨by decide +kernel, by decide +kernel⟩, List.mem_of_getElem? (i := 24) (by decide +kernel), List.mem_of_getElem? (i := 659) (by decide +kernel), List.mem_of_getElem? (i := 660) (by decide +kernel)⟩
theorem lw_p15 : lw_okq (⟨"PapersAreOnCats", "onSide1WithFish", "(III)I"⟩, 7) := ⟨⟨by decide +kernel, by decide +kernel⟩, List.mem_of_getElem? (i := 24) (by decide +kernel), List.mem_of_getElem? (i := 673) (by decide +kernel), List.mem_of_getElem? (i := 674) (by decide +kernel)⟩
def lw_privs_1 : List (MethodName × Nat) := [(⟨"PapersAreOnCats", "refusalOfRow", "(I)I"⟩, 7), (⟨"PapersAreOnCats", "refusalUnlessHeld", "(II)I"⟩, 7), (⟨"PapersAreOnCats", "carryOut", "(LPapersAreOnCats$Shelf;)I"⟩, 7), (⟨"PapersAreOnCats$Frontier", "go", "(I)V"⟩, 15), (⟨"PapersAreOnCats$Frontier", "letPass", "(II)V"⟩, 15), (⟨"PapersAreOnCats$Frontier", "turnClock", "()V"⟩, 15), (⟨"PapersAreOnCats", "refusalOfKind", "(I)I"⟩, 7), (⟨"PapersAreOnCats", "lookAhead", "(I)V"⟩, 7), (⟨"PapersAreOnCats", "hoursTillPassed", "(I)I"⟩, 7), (⟨"PapersAreOnCats", "hoursTillPassedBy", "(II)I"⟩, 7), (⟨"PapersAreOnCats", "hoursTillAt", "(II)I"⟩, 7), (⟨"PapersAreOnCats", "couldPass", "(I)Z"⟩, 7), (⟨"PapersAreOnCats", "countVisits", "(I)V"⟩, 7), (⟨"PapersAreOnCats", "suppose", "(III)V"⟩, 7), (⟨"PapersAreOnCats", "goesAsTold", "(LPapersAreOnCats$Shelf;I)Z"⟩, 7), (⟨"PapersAreOnCats", "onSide1WithFish", "(III)I"⟩, 7)]
theorem lw_r1 : ∀ q ∈ lw_privs_1, lw_okq q := List.forall_mem_cons.mpr ⟨lw_p0, List.forall_mem_cons.mpr ⟨lw_p1, List.forall_mem_cons.mpr ⟨lw_p2, List.forall_mem_cons.mpr ⟨lw_p3, List.forall_mem_cons.mpr ⟨lw_p4, List.forall_mem_cons.mpr ⟨lw_p5, List.forall_mem_cons.mpr ⟨lw_p6, List.forall_mem_cons.mpr ⟨lw_p7, List.forall_mem_cons.mpr ⟨lw_p8, List.forall_mem_cons.mpr ⟨lw_p9, List.forall_mem_cons.mpr ⟨lw_p10, List.forall_mem_cons.mpr ⟨lw_p11, List.forall_mem_cons.mpr ⟨lw_p12, List.forall_mem_cons.mpr ⟨lw_p13, List.forall_mem_cons.mpr ⟨lw_p14, List.forall_mem_cons.mpr ⟨lw_p15, fun _ h => absurd h List.not_mem_nil⟩⟩⟩⟩⟩⟩⟩⟩⟩⟩⟩⟩⟩⟩⟩⟩
theorem lw_p16 : lw_okq (⟨"PapersAreOnCats", "goWithDogs", "(II)V"⟩, 7) := ⟨⟨by decide +kernel, by decide +kernel⟩, List.mem_of_getElem? (i := 24) (by decide +kernel), List.mem_of_getElem? (i := 686) (by decide +kernel), List.mem_of_getElem? (i := 687) (by decide +kernel)⟩
theorem lw_p17 : lw_okq (⟨"PapersAreOnCats", "canGo", "(IIII)Z"⟩, 7) := ⟨⟨by decide +kernel, by decide +kernel⟩, List.mem_of_getElem? (i := 24) (by decide +kernel), List.mem_of_getElem? (i := 711) (by decide +kernel), List.mem_of_getElem? (i := 712) (by decide +kernel)⟩
theorem lw_p18 : lw_okq (⟨"java/lang/Throwable", "fillInStackTrace", "(I)Ljava/lang/Throwable;"⟩, 6) := ⟨⟨by decide +kernel, by decide +kernel⟩, List.mem_of_getElem? (i := 882) (by decide +kernel), List.mem_of_getElem? (i := 880) (by decide +kernel), List.mem_of_getElem? (i := 881) (by decide +kernel)⟩
theorem lw_p19 : lw_okq (⟨"PapersAreOnCatsModel", "wrongRow", "(II)I"⟩, 18) := ⟨⟨by decide +kernel, by decide +kernel⟩, List.mem_of_getElem? (i := 957) (by decide +kernel), List.mem_of_getElem? (i := 1022) (by decide +kernel), List.mem_of_getElem? (i := 1023) (by decide +kernel)⟩
theorem lw_p20 : lw_okq (⟨"PapersAreOnCatsModel", "readsStatement", "()Z"⟩, 18) := ⟨⟨by decide +kernel, by decide +kernel⟩, List.mem_of_getElem? (i := 957) (by decide +kernel), List.mem_of_getElem? (i := 1032) (by decide +kernel), List.mem_of_getElem? (i := 1033) (by decide +kernel)⟩
theorem lw_p21 : lw_okq (⟨"PapersAreOnCatsModel", "here", "()I"⟩, 18) := ⟨⟨by decide +kernel, by decide +kernel⟩, List.mem_of_getElem? (i := 957) (by decide +kernel), List.mem_of_getElem? (i := 1036) (by decide +kernel), List.mem_of_getElem? (i := 1037) (by decide +kernel)⟩
theorem lw_p22 : lw_okq (⟨"PapersAreOnCatsModel", "readsNumber", "(II)Z"⟩, 18) := ⟨⟨by decide +kernel, by decide +kernel⟩, List.mem_of_getElem? (i := 957) (by decide +kernel), List.mem_of_getElem? (i := 1040) (by decide +kernel), List.mem_of_getElem? (i := 1041) (by decide +kernel)⟩
theorem lw_p23 : lw_okq (⟨"PapersAreOnCatsModel", "isDone", "(I)Z"⟩, 18) := ⟨⟨by decide +kernel, by decide +kernel⟩, List.mem_of_getElem? (i := 957) (by decide +kernel), List.mem_of_getElem? (i := 1047) (by decide +kernel), List.mem_of_getElem? (i := 1048) (by decide +kernel)⟩
theorem lw_p24 : lw_okq (⟨"PapersAreOnCatsModel", "addsCat", "(III)V"⟩, 18) := ⟨⟨by decide +kernel, by decide +kernel⟩, List.mem_of_getElem? (i := 957) (by decide +kernel), List.mem_of_getElem? (i := 1054) (by decide +kernel), List.mem_of_getElem? (i := 1055) (by decide +kernel)⟩
theorem lw_p25 : lw_okq (⟨"PapersAreOnCatsModel", "addsMan", "(I)V"⟩, 18) := ⟨⟨by decide +kernel, by decide +kernel⟩, List.mem_of_getElem? (i := 957) (by decide +kernel), List.mem_of_getElem? (i := 1061) (by decide +kernel), List.mem_of_getElem? (i := 1062) (by decide +kernel)⟩
theorem lw_p26 : lw_okq (⟨"PapersAreOnCatsModel", "isCat", "(I)Z"⟩, 18) := ⟨⟨by decide +kernel, by decide +kernel⟩, List.mem_of_getElem? (i := 957) (by decide +kernel), List.mem_of_getElem? (i := 1068) (by decide +kernel), List.mem_of_getElem? (i := 1069) (by decide +kernel)⟩
theorem lw_p27 : lw_okq (⟨"PapersAreOnCatsModel", "isMan", "(I)Z"⟩, 18) := ⟨⟨by decide +kernel, by decide +kernel⟩, List.mem_of_getElem? (i := 957) (by decide +kernel), List.mem_of_getElem? (i := 1072) (by decide +kernel), List.mem_of_getElem? (i := 1073) (by decide +kernel)⟩
theorem lw_p28 : lw_okq (⟨"PapersAreOnCatsModel", "wrongKept", "(I)I"⟩, 18) := ⟨⟨by decide +kernel, by decide +kernel⟩, List.mem_of_getElem? (i := 957) (by decide +kernel), List.mem_of_getElem? (i := 1140) (by decide +kernel), List.mem_of_getElem? (i := 1141) (by decide +kernel)⟩
theorem lw_p29 : lw_okq (⟨"PapersAreOnCatsModel", "takes", "(I)V"⟩, 18) := ⟨⟨by decide +kernel, by decide +kernel⟩, List.mem_of_getElem? (i := 957) (by decide +kernel), List.mem_of_getElem? (i := 1174) (by decide +kernel), List.mem_of_getElem? (i := 1175) (by decide +kernel)⟩
theorem lw_p30 : lw_okq (⟨"PapersAreOnCatsModel", "passesOf", "(I)I"⟩, 18) := ⟨⟨by decide +kernel, by decide +kernel⟩, List.mem_of_getElem? (i := 957) (by decide +kernel), List.mem_of_getElem? (i := 1200) (by decide +kernel), List.mem_of_getElem? (i := 1201) (by decide +kernel)⟩
theorem lw_p31 : lw_okq (⟨"PapersAreOnCatsModel", "passesIn", "(I)I"⟩, 18) := ⟨⟨by decide +kernel, by decide +kernel⟩, List.mem_of_getElem? (i := 957) (by decide +kernel), List.mem_of_getElem? (i := 1204) (by decide +kernel), List.mem_of_getElem? (i := 1205) (by decide +kernel)⟩
def lw_privs_2 : List (MethodName × Nat) := [(⟨"PapersAreOnCats", "goWithDogs", "(II)V"⟩, 7), (⟨"PapersAreOnCats", "canGo", "(IIII)Z"⟩, 7), (⟨"java/lang/Throwable", "fillInStackTrace", "(I)Ljava/lang/Throwable;"⟩, 6), (⟨"PapersAreOnCatsModel", "wrongRow", "(II)I"⟩, 18), (⟨"PapersAreOnCatsModel", "readsStatement", "()Z"⟩, 18), (⟨"PapersAreOnCatsModel", "here", "()I"⟩, 18), (⟨"PapersAreOnCatsModel", "readsNumber", "(II)Z"⟩, 18), (⟨"PapersAreOnCatsModel", "isDone", "(I)Z"⟩, 18), (⟨"PapersAreOnCatsModel", "addsCat", "(III)V"⟩, 18), (⟨"PapersAreOnCatsModel", "addsMan", "(I)V"⟩, 18), (⟨"PapersAreOnCatsModel", "isCat", "(I)Z"⟩, 18), (⟨"PapersAreOnCatsModel", "isMan", "(I)Z"⟩, 18), (⟨"PapersAreOnCatsModel", "wrongKept", "(I)I"⟩, 18), (⟨"PapersAreOnCatsModel", "takes", "(I)V"⟩, 18), (⟨"PapersAreOnCatsModel", "passesOf", "(I)I"⟩, 18), (⟨"PapersAreOnCatsModel", "passesIn", "(I)I"⟩, 18)]
theorem lw_r2 : ∀ q ∈ lw_privs_2, lw_okq q := List.forall_mem_cons.mpr ⟨lw_p16, List.forall_mem_cons.mpr ⟨lw_p17, List.forall_mem_cons.mpr ⟨lw_p18, List.forall_mem_cons.mpr ⟨lw_p19, List.forall_mem_cons.mpr ⟨lw_p20, List.forall_mem_cons.mpr ⟨lw_p21, List.forall_mem_cons.mpr ⟨lw_p22, List.forall_mem_cons.mpr ⟨lw_p23, List.forall_mem_cons.mpr ⟨lw_p24, List.forall_mem_cons.mpr ⟨lw_p25, List.forall_mem_cons.mpr ⟨lw_p26, List.forall_mem_cons.mpr ⟨lw_p27, List.forall_mem_cons.mpr ⟨lw_p28, List.forall_mem_cons.mpr ⟨lw_p29, List.forall_mem_cons.mpr ⟨lw_p30, List.forall_mem_cons.mpr ⟨lw_p31, fun _ h => absurd h List.not_mem_nil⟩⟩⟩⟩⟩⟩⟩⟩⟩⟩⟩⟩⟩⟩⟩⟩
theorem lw_p32 : lw_okq (⟨"PapersAreOnCatsModel", "writeFor", "(II)I"⟩, 18) := ⟨⟨by decide +kernel, by decide +kernel⟩, List.mem_of_getElem? (i := 957) (by decide +kernel), List.mem_of_getElem? (i := 1217) (by decide +kernel), List.mem_of_getElem? (i := 1218) (by decide +kernel)⟩
theorem lw_p33 : lw_okq (⟨"PapersAreOnCatsModel", "isAtIn", "(II)I"⟩, 18) := ⟨⟨by decide +kernel, by decide +kernel⟩, List.mem_of_getElem? (i := 957) (by decide +kernel), List.mem_of_getElem? (i := 1232) (by decide +kernel), List.mem_of_getElem? (i := 1233) (by decide +kernel)⟩
theorem lw_p34 : lw_okq (⟨"PapersAreOnCatsModel", "farOf", "(I)I"⟩, 18) := ⟨⟨by decide +kernel, by decide +kernel⟩, List.mem_of_getElem? (i := 957) (by decide +kernel), List.mem_of_getElem? (i := 1269) (by decide +kernel), List.mem_of_getElem? (i := 1270) (by decide +kernel)⟩
theorem lw_p35 : lw_okq (⟨"PapersAreOnCatsModel", "hasBy", "(IIII)I"⟩, 18) := ⟨⟨by decide +kernel, by decide +kernel⟩, List.mem_of_getElem? (i := 957) (by decide +kernel), List.mem_of_getElem? (i := 1285) (by decide +kernel), List.mem_of_getElem? (i := 1286) (by decide +kernel)⟩
theorem lw_p36 : lw_okq (⟨"PapersAreOnCatsModel", "onSide", "([II)I"⟩, 18) := ⟨⟨by decide +kernel, by decide +kernel⟩, List.mem_of_getElem? (i := 957) (by decide +kernel), List.mem_of_getElem? (i := 1289) (by decide +kernel), List.mem_of_getElem? (i := 1290) (by decide +kernel)⟩
theorem lw_p37 : lw_okq (⟨"PapersAreOnCatsModel", "drawn", "(I)I"⟩, 18) := ⟨⟨by decide +kernel, by decide +kernel⟩, List.mem_of_getElem? (i := 957) (by decide +kernel), List.mem_of_getElem? (i := 1320) (by decide +kernel), List.mem_of_getElem? (i := 1321) (by decide +kernel)⟩
def lw_privs_3 : List (MethodName × Nat) := [(⟨"PapersAreOnCatsModel", "writeFor", "(II)I"⟩, 18), (⟨"PapersAreOnCatsModel", "isAtIn", "(II)I"⟩, 18), (⟨"PapersAreOnCatsModel", "farOf", "(I)I"⟩, 18), (⟨"PapersAreOnCatsModel", "hasBy", "(IIII)I"⟩, 18), (⟨"PapersAreOnCatsModel", "onSide", "([II)I"⟩, 18), (⟨"PapersAreOnCatsModel", "drawn", "(I)I"⟩, 18)]
theorem lw_r3 : ∀ q ∈ lw_privs_3, lw_okq q := List.forall_mem_cons.mpr ⟨lw_p32, List.forall_mem_cons.mpr ⟨lw_p33, List.forall_mem_cons.mpr ⟨lw_p34, List.forall_mem_cons.mpr ⟨lw_p35, List.forall_mem_cons.mpr ⟨lw_p36, List.forall_mem_cons.mpr ⟨lw_p37, fun _ h => absurd h List.not_mem_nil⟩⟩⟩⟩⟩⟩
def lw_privs : List (MethodName × Nat) := lw_privs_1 ++ (lw_privs_2 ++ (lw_privs_3))
def lw_tbl : List Cond := k2_sels lw_privs ++ tables_1
theorem lw_privs_ok : ∀ q ∈ lw_privs, lw_okq q := by
  show ∀ q ∈ lw_privs_1 ++ (lw_privs_2 ++ (lw_privs_3)), lw_okq q
  exact List.forall_mem_append.mpr ⟨lw_r1, List.forall_mem_append.mpr ⟨lw_r2, lw_r3⟩⟩
-- ===== end of PART A; then your names; then what follows =====
end
section
-- class names and field tables, as the names file prints them (a starting text), and the list of the classes of the worlds
def RX0 : String := "PapersAreOnCats$Cat"
def TX0 : u_T := fun k => match k with
  | _ => ("", "", "", false)
def tyX0 : Nat → FieldType := fun k => match k with
  | _ => .int
theorem nmX0 : ∀ a, a < 0 → ∀ b, b < 0 → a ≠ b → (TX0 a).2.1 ≠ (TX0 b).2.1 := by decide +kernel
theorem tyX0_ok : ∀ k, k < 0 → parseFieldDescriptor (TX0 k).2.2.1 = some (tyX0 k) := by decide +kernel
def RX1 : String := "PapersAreOnCats$Frontier"
def TX1 : u_T := fun k => match k with
  | 0 => ("PapersAreOnCats$Frontier", "kinds", "[LPapersAreOnCats$Cat;", true)
  | 1 => ("PapersAreOnCats$Frontier", "kind", "[I", true)
  | 2 => ("PapersAreOnCats$Frontier", "figure", "[I", true)
  | 3 => ("PapersAreOnCats$Frontier", "at", "[I", true)
  | 4 => ("PapersAreOnCats$Frontier", "hair", "[I", true)
  | 5 => ("PapersAreOnCats$Frontier", "name", "[I", true)
  | 6 => ("PapersAreOnCats$Frontier", "side", "[I", true)
  | 7 => ("PapersAreOnCats$Frontier", "fish", "[I", true)
  | 8 => ("PapersAreOnCats$Frontier", "mice", "[I", true)
  | 9 => ("PapersAreOnCats$Frontier", "cats", "I", false)
  | 10 => ("PapersAreOnCats$Frontier", "men", "I", false)
  | 11 => ("PapersAreOnCats$Frontier", "hour", "I", false)
  | 12 => ("PapersAreOnCats$Frontier", "day", "I", false)
  | 13 => ("PapersAreOnCats$Frontier", "passed", "I", false)
  | _ => ("PapersAreOnCats$Frontier", "crossed", "I", false)
def tyX1 : Nat → FieldType := fun k => match k with
  | 0 => .array (.object "PapersAreOnCats$Cat")
  | 1 => .array .int
  | 2 => .array .int
  | 3 => .array .int
  | 4 => .array .int
  | 5 => .array .int
  | 6 => .array .int
  | 7 => .array .int
  | 8 => .array .int
  | 9 => .int
  | 10 => .int
  | 11 => .int
  | 12 => .int
  | 13 => .int
  | _ => .int
theorem nmX1 : ∀ a, a < 15 → ∀ b, b < 15 → a ≠ b → (TX1 a).2.1 ≠ (TX1 b).2.1 := by decide +kernel
theorem tyX1_ok : ∀ k, k < 15 → parseFieldDescriptor (TX1 k).2.2.1 = some (tyX1 k) := by decide +kernel
def RX2 : String := "PapersAreOnCats$Kitten"
def TX2 : u_T := fun k => match k with
  | _ => ("", "", "", false)
def tyX2 : Nat → FieldType := fun k => match k with
  | _ => .int
theorem nmX2 : ∀ a, a < 0 → ∀ b, b < 0 → a ≠ b → (TX2 a).2.1 ≠ (TX2 b).2.1 := by decide +kernel
theorem tyX2_ok : ∀ k, k < 0 → parseFieldDescriptor (TX2 k).2.2.1 = some (tyX2 k) := by decide +kernel
def RX3 : String := "PapersAreOnCats$Mouser"
def TX3 : u_T := fun k => match k with
  | _ => ("", "", "", false)
def tyX3 : Nat → FieldType := fun k => match k with
  | _ => .int
theorem nmX3 : ∀ a, a < 0 → ∀ b, b < 0 → a ≠ b → (TX3 a).2.1 ≠ (TX3 b).2.1 := by decide +kernel
theorem tyX3_ok : ∀ k, k < 0 → parseFieldDescriptor (TX3 k).2.2.1 = some (tyX3 k) := by decide +kernel
def RX4 : String := "PapersAreOnCats$Old"
def TX4 : u_T := fun k => match k with
  | _ => ("", "", "", false)
def tyX4 : Nat → FieldType := fun k => match k with
  | _ => .int
theorem nmX4 : ∀ a, a < 0 → ∀ b, b < 0 → a ≠ b → (TX4 a).2.1 ≠ (TX4 b).2.1 := by decide +kernel
theorem tyX4_ok : ∀ k, k < 0 → parseFieldDescriptor (TX4 k).2.2.1 = some (tyX4 k) := by decide +kernel
def RX5 : String := "PapersAreOnCats$Shelf"
def TX5 : u_T := fun k => match k with
  | 0 => ("PapersAreOnCats$Shelf", "holds", "I", false)
  | 1 => ("PapersAreOnCats$Shelf", "kind", "I", false)
  | 2 => ("PapersAreOnCats$Shelf", "figure", "I", false)
  | 3 => ("PapersAreOnCats$Shelf", "sort", "I", false)
  | 4 => ("PapersAreOnCats$Shelf", "size", "I", false)
  | _ => ("PapersAreOnCats$Shelf", "cells", "[I", true)
def tyX5 : Nat → FieldType := fun k => match k with
  | 0 => .int
  | 1 => .int
  | 2 => .int
  | 3 => .int
  | 4 => .int
  | _ => .array .int
theorem nmX5 : ∀ a, a < 6 → ∀ b, b < 6 → a ≠ b → (TX5 a).2.1 ≠ (TX5 b).2.1 := by decide +kernel
theorem tyX5_ok : ∀ k, k < 6 → parseFieldDescriptor (TX5 k).2.2.1 = some (tyX5 k) := by decide +kernel
def RX6 : String := "PapersAreOnCats$Shell"
def TX6 : u_T := fun k => match k with
  | _ => ("", "", "", false)
def tyX6 : Nat → FieldType := fun k => match k with
  | _ => .int
theorem nmX6 : ∀ a, a < 0 → ∀ b, b < 0 → a ≠ b → (TX6 a).2.1 ≠ (TX6 b).2.1 := by decide +kernel
theorem tyX6_ok : ∀ k, k < 0 → parseFieldDescriptor (TX6 k).2.2.1 = some (tyX6 k) := by decide +kernel
def RX7 : String := "PapersAreOnCats$Spy"
def TX7 : u_T := fun k => match k with
  | _ => ("", "", "", false)
def tyX7 : Nat → FieldType := fun k => match k with
  | _ => .int
theorem nmX7 : ∀ a, a < 0 → ∀ b, b < 0 → a ≠ b → (TX7 a).2.1 ≠ (TX7 b).2.1 := by decide +kernel
theorem tyX7_ok : ∀ k, k < 0 → parseFieldDescriptor (TX7 k).2.2.1 = some (tyX7 k) := by decide +kernel
def RX8 : String := "PapersAreOnCats$Text"
def TX8 : u_T := fun k => match k with
  | _ => ("", "", "", false)
def tyX8 : Nat → FieldType := fun k => match k with
  | _ => .int
theorem nmX8 : ∀ a, a < 0 → ∀ b, b < 0 → a ≠ b → (TX8 a).2.1 ≠ (TX8 b).2.1 := by decide +kernel
theorem tyX8_ok : ∀ k, k < 0 → parseFieldDescriptor (TX8 k).2.2.1 = some (tyX8 k) := by decide +kernel
def RX9 : String := "PapersAreOnCats$Tom"
def TX9 : u_T := fun k => match k with
  | _ => ("", "", "", false)
def tyX9 : Nat → FieldType := fun k => match k with
  | _ => .int
theorem nmX9 : ∀ a, a < 0 → ∀ b, b < 0 → a ≠ b → (TX9 a).2.1 ≠ (TX9 b).2.1 := by decide +kernel
theorem tyX9_ok : ∀ k, k < 0 → parseFieldDescriptor (TX9 k).2.2.1 = some (tyX9 k) := by decide +kernel
def RX10 : String := "PapersAreOnCats$White"
def TX10 : u_T := fun k => match k with
  | _ => ("", "", "", false)
def tyX10 : Nat → FieldType := fun k => match k with
  | _ => .int
theorem nmX10 : ∀ a, a < 0 → ∀ b, b < 0 → a ≠ b → (TX10 a).2.1 ≠ (TX10 b).2.1 := by decide +kernel
theorem tyX10_ok : ∀ k, k < 0 → parseFieldDescriptor (TX10 k).2.2.1 = some (tyX10 k) := by decide +kernel
def RX11 : String := "PapersAreOnCats"
def TX11 : u_T := fun k => match k with
  | 0 => ("PapersAreOnCats", "kinds", "[LPapersAreOnCats$Cat;", true)
  | 1 => ("PapersAreOnCats", "now", "LPapersAreOnCats$Frontier;", true)
  | 2 => ("PapersAreOnCats", "mind", "LPapersAreOnCats$Frontier;", true)
  | 3 => ("PapersAreOnCats", "image", "LPapersAreOnCats$Frontier;", true)
  | 4 => ("PapersAreOnCats", "imageTaken", "Z", false)
  | 5 => ("PapersAreOnCats", "shelves", "[LPapersAreOnCats$Shelf;", true)
  | _ => ("PapersAreOnCats", "visits", "[I", true)
def tyX11 : Nat → FieldType := fun k => match k with
  | 0 => .array (.object "PapersAreOnCats$Cat")
  | 1 => .object "PapersAreOnCats$Frontier"
  | 2 => .object "PapersAreOnCats$Frontier"
  | 3 => .object "PapersAreOnCats$Frontier"
  | 4 => .boolean
  | 5 => .array (.object "PapersAreOnCats$Shelf")
  | _ => .array .int
theorem nmX11 : ∀ a, a < 7 → ∀ b, b < 7 → a ≠ b → (TX11 a).2.1 ≠ (TX11 b).2.1 := by decide +kernel
theorem tyX11_ok : ∀ k, k < 7 → parseFieldDescriptor (TX11 k).2.2.1 = some (tyX11 k) := by decide +kernel
def RX12 : String := "PapersAreOnCatsModel"
def TX12 : u_T := fun k => match k with
  | 0 => ("PapersAreOnCatsModel", "s", "[I", true)
  | 1 => ("PapersAreOnCatsModel", "m", "[I", true)
  | 2 => ("PapersAreOnCatsModel", "image", "[I", true)
  | 3 => ("PapersAreOnCatsModel", "was", "[I", true)
  | 4 => ("PapersAreOnCatsModel", "hasImage", "Z", false)
  | 5 => ("PapersAreOnCatsModel", "place", "I", false)
  | 6 => ("PapersAreOnCatsModel", "rowAt", "I", false)
  | 7 => ("PapersAreOnCatsModel", "rowEnd", "I", false)
  | 8 => ("PapersAreOnCatsModel", "numbers", "[I", true)
  | 9 => ("PapersAreOnCatsModel", "often", "[I", true)
  | 10 => ("PapersAreOnCatsModel", "seed", "I", false)
  | 11 => ("PapersAreOnCatsModel", "kept", "[I", true)
  | 12 => ("PapersAreOnCatsModel", "keptKind", "[I", true)
  | 13 => ("PapersAreOnCatsModel", "keptFigure", "[I", true)
  | 14 => ("PapersAreOnCatsModel", "sort", "[I", true)
  | 15 => ("PapersAreOnCatsModel", "size", "[I", true)
  | 16 => ("PapersAreOnCatsModel", "element", "[I", true)
  | _ => ("PapersAreOnCatsModel", "thrown", "I", false)
def tyX12 : Nat → FieldType := fun k => match k with
  | 0 => .array .int
  | 1 => .array .int
  | 2 => .array .int
  | 3 => .array .int
  | 4 => .boolean
  | 5 => .int
  | 6 => .int
  | 7 => .int
  | 8 => .array .int
  | 9 => .array .int
  | 10 => .int
  | 11 => .array .int
  | 12 => .array .int
  | 13 => .array .int
  | 14 => .array .int
  | 15 => .array .int
  | 16 => .array .int
  | _ => .int
theorem nmX12 : ∀ a, a < 18 → ∀ b, b < 18 → a ≠ b → (TX12 a).2.1 ≠ (TX12 b).2.1 := by decide +kernel
theorem tyX12_ok : ∀ k, k < 18 → parseFieldDescriptor (TX12 k).2.2.1 = some (tyX12 k) := by decide +kernel
def RL : String := "PapersAreOnCatsLaw"
abbrev jm_cl0 : List vw_C := [(RX0, TX0, 0), (RX1, TX1, 15), (RX2, TX2, 0), (RX3, TX3, 0), (RX4, TX4, 0), (RX5, TX5, 6), (RX6, TX6, 0), (RX7, TX7, 0), (RX9, TX9, 0), (RX10, TX10, 0), (RX11, TX11, 7), (RX12, TX12, 18)]
end
section
/-! THE SMALL MACHINE: what the methods of class and reference do, over a memory of ints whose cells have fixed shapes. This part: its tables' types and their checks. -/
/-- a method: name, code, locals, what it returns, room (frames, words), number of the class that owns it -/
abbrev jm_MT : Type := MethodName × ByteArray × Nat × Option FieldType × Nat × Nat × Nat
/-- an instruction: where, which, its length, the constant that it bears (0 if none) -/
abbrev jm_IT : Type := Nat × Instr × Nat × Int32
/-- a call: kind, parameters, the receiver's class with the method run and the places of the words -/
abbrev jm_CE : Type := Nat × Nat × List (Nat × Nat × List Nat)
/-- the word w stands at place i of the tables, and calls keep it -/
def jm_at (i : Nat) (w : Cond) : Bool := decide (lw_tbl[i]? = some w) && goodWord w
def jm_T : List Cond := lw_tbl.filter goodWord
theorem jm_at_T {i : Nat} {w : Cond} (h : jm_at i w = true) : w ∈ jm_T := by
  simp only [jm_at, Bool.and_eq_true, decide_eq_true_eq] at h
  exact List.mem_filter.mpr ⟨List.mem_of_getElem? h.1, h.2⟩
def jm_len : Instr → Nat
  | .bipush _ | .iload _ | .lload _ | .aload _ | .istore _ | .lstore _ | .astore _ | .ldc _ => 2
  | .sipush _ | .iinc _ _ | .getfield _ | .putfield _ | .invokestatic _ | .invokevirtual _ | .invokespecial _ | .goto _ | .ifCond _ _ | .if_icmp _ _ | .ldc_w _ | .ldc2_w _ => 3
  | _ => 1
def jm_sw : Instr → Bool
  | .tableswitch _ _ _ _ | .lookupswitch _ _ => true
  | _ => false
/-- every place that the instruction may jump to is a Nat; a lookupswitch is in order -/
def jm_offok (pc : Nat) : Instr → Bool
  | .goto o | .ifCond _ o | .if_icmp _ o => decide (0 ≤ (pc : Int) + o)
  | .tableswitch d lo hi os => decide (0 ≤ (pc : Int) + d) && os.toList.all (fun o => decide (0 ≤ (pc : Int) + o)) && decide (hi = lo + (os.size : Int) - 1) && decide (-2147483648 ≤ lo) && decide (hi ≤ 2147483647)
  | .lookupswitch d ps => decide (0 ≤ (pc : Int) + d) && ps.toList.all (fun q => decide (0 ≤ (pc : Int) + q.2) && decide (-2147483648 ≤ q.1) && decide (q.1 ≤ 2147483647)) && (ps.toList.zip (ps.toList.drop 1)).all (fun (a, next) => a.1 < next.1)
  | _ => true
def jm_cval (con : List (Nat × Int32 × Nat)) (v : Int32) : Instr → Bool
  | .iconst k => decide (Int32.ofInt k = v)
  | .bipush k => decide ((Int8.ofInt k).toInt32 = v)
  | .sipush k => decide ((Int16.ofInt k).toInt32 = v)
  | .iinc _ k => decide (Int32.ofInt k = v)
  | .ldc i | .ldc_w i => decide ((con.lookup i).map (fun q => q.1) = some v)
  | _ => true
def jm_inok (con : List (Nat × Int32 × Nat)) (code : ByteArray) (q : jm_IT) : Bool :=
  decide (decode code q.1 = .ok (q.2.1, q.2.2.1)) && (decide (q.2.2.1 = jm_len q.2.1) || jm_sw q.2.1) && jm_offok q.1 q.2.1 && jm_cval con q.2.2.2 q.2.1
def jm_mtok (q : jm_MT × Nat) : Bool := jm_at q.2 (.code q.1.1 q.1.2.1 q.1.2.2.1 q.1.2.2.2.1) && plainName q.1.1.cls
def jm_nm (ci : Nat) : String := match jm_cl0[ci]? with
  | some q => q.1
  | none => ""
def jm_fT (ci : Nat) : u_T := match jm_cl0[ci]? with
  | some q => q.2.1
  | none => fun _ => ("", "", "", false)
def jm_flok (own : String) (q : Nat × Nat × Nat × Nat) : Bool :=
  jm_at q.2.2.2 (.fieldLink own q.1 (jm_fT q.2.1 q.2.2.1).1 (jm_fT q.2.1 q.2.2.1).2.1 (jm_fT q.2.1 q.2.2.1).2.2.1) && decide (q.2.2.1 < ((jm_cl0[q.2.1]?).map (fun z => z.2.2)).getD 0)
def jm_conok (own : String) (q : Nat × Int32 × Nat) : Bool := jm_at q.2.2 (.constant own q.1 q.2.1)
def jm_conLok (own : String) (q : Nat × Int64 × Nat) : Bool := jm_at q.2.2 (.constantLong own q.1 q.2.1)
def jm_acpok (own : String) (q : Nat × Nat) : Bool := jm_at q.2 (.methodLink own q.1 arraycopyName)
def jm_mthok (own : String) (q : Nat × Nat × List Nat) : Bool := match q.2.1, q.2.2 with
  | 0, [a, b, c, d] => jm_at a (.methodLink own q.1 Lib.Math.max.name) && jm_at b (.static Lib.Math.max.name) && jm_at c (.initialized "java/lang/Math") && jm_at d (.code Lib.Math.max.name Lib.Math.max.code 2 (some .int))
  | 1, [a, b, c, d] => jm_at a (.methodLink own q.1 Lib.Math.min.name) && jm_at b (.static Lib.Math.min.name) && jm_at c (.initialized "java/lang/Math") && jm_at d (.code Lib.Math.min.name Lib.Math.min.code 2 (some .int))
  | 2, [a, b, c, d] => jm_at a (.methodLink own q.1 Lib.Math.abs.name) && jm_at b (.static Lib.Math.abs.name) && jm_at c (.initialized "java/lang/Math") && jm_at d (.code Lib.Math.abs.name Lib.Math.abs.code 1 (some .int))
  | _, _ => false
/-- the links of nest mates: calls keep them, but by a law of their own -/
def jm_isN : Cond → Bool
  | .methodLinkNest _ _ _ _ => true
  | _ => false
def jm_N : List Cond := lw_tbl.filter jm_isN
def jm_atN (i : Nat) (w : Cond) : Bool := decide (lw_tbl[i]? = some w) && jm_isN w
theorem jm_at_N {i : Nat} {w : Cond} (h : jm_atN i w = true) : w ∈ jm_N := by
  simp only [jm_atN, Bool.and_eq_true, decide_eq_true_eq] at h
  exact List.mem_filter.mpr ⟨List.mem_of_getElem? h.1, h.2⟩
def jm_par (y : MethodName) (n : Nat) : Bool := decide (y.cls ≠ "java/lang/invoke/MethodHandle") && decide (y.cls ≠ "java/lang/invoke/VarHandle") && decide ((parseMethodDescriptor y.desc).map (fun d => d.parameters.length) = some n)
/-- the words of a call, by its kind -/
def jm_cok1 (own : String) (idx kd n ci : Nat) (y : MethodName) (ps : List Nat) : Bool := jm_par y n && match kd, ps with
  | 0, [a, b, c] => jm_at a (.methodLink own idx y) && jm_at b (.static y) && jm_at c (.initialized y.cls)
  | 1, [a, b, c] => jm_atN a (.methodLinkNest own idx y "PapersAreOnCats") && jm_at b (.static y) && jm_at c (.initialized y.cls)
  | 2, [a, b, c, d] => jm_at a (.methodLink own idx y) && jm_at b (.instanceMethod y) && jm_at c (.selects (jm_nm ci) y y) && jm_at d (.initialized y.cls) && decide (y.cls = jm_nm ci)
  | 3, [a, b, c, d, f, g, z] => jm_at a (.methodLink own idx ⟨"PapersAreOnCats$Cat", y.name, y.desc⟩) && jm_at b (.sameMethod "PapersAreOnCats$Cat" "PapersAreOnCats$Cat" y.name y.desc) && jm_at c (.instanceMethod ⟨"PapersAreOnCats$Cat", y.name, y.desc⟩) && jm_at d (.selects (jm_nm ci) ⟨"PapersAreOnCats$Cat", y.name, y.desc⟩ y) && jm_at f (.instanceMethod y) && jm_at g (.initialized y.cls) && (match lw_tbl[z]? with
    | some (.code x b0 m0 r0) => decide (x = ⟨"PapersAreOnCats$Cat", y.name, y.desc⟩) && goodWord (.code x b0 m0 r0)
    | _ => false)
  | 4, [a, b, c, d, f] => jm_at a (.methodLink own idx y) && jm_at b (.sameMethod y.cls y.cls y.name y.desc) && jm_at c (.superclass own y.cls) && jm_at d (.instanceMethod y) && jm_at f (.initialized y.cls) && decide (y.name ≠ "<init>")
  | _, _ => false
def jm_cok (mt : List jm_MT) (own : String) (q : Nat × jm_CE) : Bool := q.2.2.2.all (fun t => match mt[t.2.1]? with
  | some r => jm_cok1 own q.1 q.2.1 q.2.2.1 t.1 r.1 t.2.2
  | none => false)
end
section
/-- the names of the classes that own methods, by number -/
def jm_on : List String := ["PapersAreOnCats$Cat", "PapersAreOnCats$Frontier", "PapersAreOnCats$Kitten", "PapersAreOnCats$Mouser", "PapersAreOnCats$Old", "PapersAreOnCats$Shelf", "PapersAreOnCats$Shell", "PapersAreOnCats$Spy", "PapersAreOnCats$Text", "PapersAreOnCats$Tom", "PapersAreOnCats$White", "PapersAreOnCats", "PapersAreOnCatsModel", "java/lang/Integer", "java/util/Arrays"]
/-- a method: its name, its code, its locals, what it returns, its room (frames, words), the number of the class that owns it -/
def jm_mt0 : List jm_MT := [(⟨"PapersAreOnCats$Cat", "goal", "(LPapersAreOnCats$Frontier;I)I"⟩, prog_2_method_2_code, 3, (some .int), 2, 50, 0),
  (⟨"PapersAreOnCats$Cat", "pace", "(II)I"⟩, prog_2_method_3_code, 3, (some .int), 0, 0, 0),
  (⟨"PapersAreOnCats$Cat", "grows", "()I"⟩, prog_2_method_4_code, 1, (some .int), 0, 0, 0),
  (⟨"PapersAreOnCats$Cat", "showsSkin", "(I)Z"⟩, prog_2_method_5_code, 2, (some .boolean), 0, 0, 0),
  (⟨"PapersAreOnCats$Cat", "price", "(I)I"⟩, prog_2_method_6_code, 2, (some .int), 0, 0, 0),
  (⟨"PapersAreOnCats$Cat", "failure", "(I)I"⟩, prog_2_method_8_code, 2, (some .int), 0, 0, 0),
  (⟨"PapersAreOnCats$Frontier", "becomes", "(LPapersAreOnCats$Frontier;)V"⟩, prog_3_method_2_code, 2, none, 1, 26, 1),
  (⟨"PapersAreOnCats$Frontier", "hasCat", "(I)Z"⟩, prog_3_method_3_code, 2, (some .boolean), 0, 0, 1),
  (⟨"PapersAreOnCats$Frontier", "hasMan", "(I)Z"⟩, prog_3_method_4_code, 2, (some .boolean), 0, 0, 1),
  (⟨"PapersAreOnCats$Frontier", "hasName", "(I)Z"⟩, prog_3_method_5_code, 2, (some .boolean), 1, 21, 1),
  (⟨"PapersAreOnCats$Frontier", "hasPassed", "(I)Z"⟩, prog_3_method_6_code, 2, (some .boolean), 0, 0, 1),
  (⟨"PapersAreOnCats$Frontier", "hasCrossed", "(I)Z"⟩, prog_3_method_7_code, 2, (some .boolean), 0, 0, 1),
  (⟨"PapersAreOnCats$Frontier", "hasDaysFor", "(I)Z"⟩, prog_3_method_8_code, 2, (some .boolean), 0, 0, 1),
  (⟨"PapersAreOnCats$Frontier", "addCat", "(III)Z"⟩, prog_3_method_9_code, 4, (some .boolean), 0, 0, 1),
  (⟨"PapersAreOnCats$Frontier", "addMan", "(I)Z"⟩, prog_3_method_10_code, 2, (some .boolean), 0, 0, 1),
  (⟨"PapersAreOnCats$Frontier", "giveName", "(II)V"⟩, prog_3_method_11_code, 3, none, 0, 0, 1),
  (⟨"PapersAreOnCats$Frontier", "addFish", "(II)V"⟩, prog_3_method_12_code, 3, none, 1, 26, 1),
  (⟨"PapersAreOnCats$Frontier", "goOn", "(I)V"⟩, prog_3_method_13_code, 3, none, 6, 141, 1),
  (⟨"PapersAreOnCats$Frontier", "anHour", "()V"⟩, prog_3_method_14_code, 3, none, 5, 119, 1),
  (⟨"PapersAreOnCats$Frontier", "anHourOfDogs", "()V"⟩, prog_3_method_15_code, 2, none, 2, 47, 1),
  (⟨"PapersAreOnCats$Frontier", "go", "(I)V"⟩, prog_3_method_16_code, 6, none, 4, 94, 1),
  (⟨"PapersAreOnCats$Frontier", "grow", "(I)V"⟩, prog_3_method_17_code, 2, none, 1, 26, 1),
  (⟨"PapersAreOnCats$Frontier", "letPass", "(II)V"⟩, prog_3_method_18_code, 4, none, 2, 42, 1),
  (⟨"PapersAreOnCats$Frontier", "turnClock", "()V"⟩, prog_3_method_19_code, 1, none, 0, 0, 1),
  (⟨"PapersAreOnCats$Frontier", "goalOf", "(I)I"⟩, prog_3_method_20_code, 2, (some .int), 3, 73, 1)]
def jm_mt1 : List jm_MT := [(⟨"PapersAreOnCats$Frontier", "paceOf", "(II)I"⟩, prog_3_method_21_code, 3, (some .int), 3, 66, 1),
  (⟨"PapersAreOnCats$Frontier", "canBeRead", "(I)Z"⟩, prog_3_method_22_code, 2, (some .boolean), 1, 21, 1),
  (⟨"PapersAreOnCats$Frontier", "readableCats", "()I"⟩, prog_3_method_23_code, 3, (some .int), 2, 42, 1),
  (⟨"PapersAreOnCats$Frontier", "catsAt", "(I)I"⟩, prog_3_method_24_code, 4, (some .int), 0, 0, 1),
  (⟨"PapersAreOnCats$Frontier", "placesOfCats", "()I"⟩, prog_3_method_25_code, 3, (some .int), 0, 0, 1),
  (⟨"PapersAreOnCats$Frontier", "catsOnSide1", "()I"⟩, prog_3_method_26_code, 3, (some .int), 1, 20, 1),
  (⟨"PapersAreOnCats$Frontier", "allFish", "()I"⟩, prog_3_method_27_code, 3, (some .int), 0, 0, 1),
  (⟨"PapersAreOnCats$Frontier", "richestPlace", "([II)I"⟩, prog_3_method_28_code, 5, (some .int), 1, 26, 1),
  (⟨"PapersAreOnCats$Frontier", "placeOfNearestOther", "(I)I"⟩, prog_3_method_29_code, 6, (some .int), 1, 26, 1),
  (⟨"PapersAreOnCats$Kitten", "goal", "(LPapersAreOnCats$Frontier;I)I"⟩, prog_4_method_2_code, 3, (some .int), 0, 0, 2),
  (⟨"PapersAreOnCats$Kitten", "pace", "(II)I"⟩, prog_4_method_3_code, 3, (some .int), 0, 0, 2),
  (⟨"PapersAreOnCats$Kitten", "price", "(I)I"⟩, prog_4_method_4_code, 2, (some .int), 2, 42, 2),
  (⟨"PapersAreOnCats$Mouser", "goal", "(LPapersAreOnCats$Frontier;I)I"⟩, prog_5_method_2_code, 3, (some .int), 2, 50, 3),
  (⟨"PapersAreOnCats$Mouser", "price", "(I)I"⟩, prog_5_method_3_code, 2, (some .int), 1, 21, 3),
  (⟨"PapersAreOnCats$Old", "pace", "(II)I"⟩, prog_6_method_2_code, 3, (some .int), 0, 0, 4),
  (⟨"PapersAreOnCats$Old", "price", "(I)I"⟩, prog_6_method_3_code, 2, (some .int), 0, 0, 4),
  (⟨"PapersAreOnCats$Shelf", "holdNothing", "()V"⟩, prog_7_method_2_code, 1, none, 0, 0, 5),
  (⟨"PapersAreOnCats$Shelf", "holdKind", "(II)V"⟩, prog_7_method_3_code, 3, none, 0, 0, 5),
  (⟨"PapersAreOnCats$Shelf", "holdRow", "(II)V"⟩, prog_7_method_4_code, 3, none, 1, 23, 5),
  (⟨"PapersAreOnCats$Shelf", "hasElement", "(I)Z"⟩, prog_7_method_5_code, 2, (some .boolean), 0, 0, 5),
  (⟨"PapersAreOnCats$Shelf", "hasStretch", "(II)Z"⟩, prog_7_method_6_code, 3, (some .boolean), 0, 0, 5),
  (⟨"PapersAreOnCats$Shelf", "get", "(I)I"⟩, prog_7_method_7_code, 2, (some .int), 1, 21, 5),
  (⟨"PapersAreOnCats$Shelf", "set", "(II)V"⟩, prog_7_method_8_code, 3, none, 1, 21, 5),
  (⟨"PapersAreOnCats$Shelf", "isSkipped", "(I)Z"⟩, prog_7_method_9_code, 2, (some .boolean), 2, 42, 5),
  (⟨"PapersAreOnCats$Shell", "goal", "(LPapersAreOnCats$Frontier;I)I"⟩, prog_8_method_2_code, 4, (some .int), 2, 50, 6)]
def jm_mt2 : List jm_MT := [(⟨"PapersAreOnCats$Shell", "grows", "()I"⟩, prog_8_method_3_code, 1, (some .int), 0, 0, 6),
  (⟨"PapersAreOnCats$Shell", "showsSkin", "(I)Z"⟩, prog_8_method_4_code, 2, (some .boolean), 0, 0, 6),
  (⟨"PapersAreOnCats$Shell", "price", "(I)I"⟩, prog_8_method_5_code, 2, (some .int), 2, 42, 6),
  (⟨"PapersAreOnCats$Spy", "pace", "(II)I"⟩, prog_9_method_2_code, 3, (some .int), 2, 44, 7),
  (⟨"PapersAreOnCats$Spy", "price", "(I)I"⟩, prog_9_method_3_code, 2, (some .int), 1, 21, 7),
  (⟨"PapersAreOnCats$Spy", "failure", "(I)I"⟩, prog_9_method_4_code, 2, (some .int), 2, 42, 7),
  (⟨"PapersAreOnCats$Text", "digitsBehind", "(I)I"⟩, prog_10_method_2_code, 1, (some .int), 0, 0, 8),
  (⟨"PapersAreOnCats$Text", "length", "(I)I"⟩, prog_10_method_3_code, 1, (some .int), 1, 20, 8),
  (⟨"PapersAreOnCats$Text", "firstBadByte", "(LPapersAreOnCats$Shelf;)I"⟩, prog_10_method_4_code, 4, (some .int), 2, 42, 8),
  (⟨"PapersAreOnCats$Text", "isDone", "(LPapersAreOnCats$Shelf;ILPapersAreOnCats$Frontier;)Z"⟩, prog_10_method_5_code, 3, (some .boolean), 8, 186, 8),
  (⟨"PapersAreOnCats$Text", "catIsAdded", "(LPapersAreOnCats$Shelf;ILPapersAreOnCats$Frontier;)Z"⟩, prog_10_method_6_code, 6, (some .boolean), 3, 66, 8),
  (⟨"PapersAreOnCats$Text", "manIsAdded", "(LPapersAreOnCats$Shelf;ILPapersAreOnCats$Frontier;)Z"⟩, prog_10_method_7_code, 4, (some .boolean), 3, 66, 8),
  (⟨"PapersAreOnCats$Text", "stockIsLaid", "(LPapersAreOnCats$Shelf;I[I)Z"⟩, prog_10_method_8_code, 4, (some .boolean), 3, 66, 8),
  (⟨"PapersAreOnCats$Text", "nameIsGiven", "(LPapersAreOnCats$Shelf;ILPapersAreOnCats$Frontier;)Z"⟩, prog_10_method_9_code, 5, (some .boolean), 3, 66, 8),
  (⟨"PapersAreOnCats$Text", "hoursGoBy", "(LPapersAreOnCats$Shelf;ILPapersAreOnCats$Frontier;)Z"⟩, prog_10_method_10_code, 4, (some .boolean), 7, 163, 8),
  (⟨"PapersAreOnCats$Text", "number", "(LPapersAreOnCats$Shelf;II)I"⟩, prog_10_method_11_code, 5, (some .int), 2, 42, 8),
  (⟨"PapersAreOnCats$Tom", "goal", "(LPapersAreOnCats$Frontier;I)I"⟩, prog_11_method_2_code, 3, (some .int), 2, 51, 9),
  (⟨"PapersAreOnCats$Tom", "pace", "(II)I"⟩, prog_11_method_3_code, 3, (some .int), 1, 22, 9),
  (⟨"PapersAreOnCats$Tom", "price", "(I)I"⟩, prog_11_method_4_code, 2, (some .int), 0, 0, 9),
  (⟨"PapersAreOnCats$Tom", "failure", "(I)I"⟩, prog_11_method_5_code, 2, (some .int), 1, 21, 9),
  (⟨"PapersAreOnCats$White", "goal", "(LPapersAreOnCats$Frontier;I)I"⟩, prog_12_method_2_code, 3, (some .int), 0, 0, 10),
  (⟨"PapersAreOnCats$White", "grows", "()I"⟩, prog_12_method_3_code, 1, (some .int), 0, 0, 10),
  (⟨"PapersAreOnCats$White", "price", "(I)I"⟩, prog_12_method_4_code, 2, (some .int), 1, 21, 10),
  (⟨"PapersAreOnCats", "frontier", "(I)I"⟩, prog_1_method_2_code, 5, (some .int), 10, 231, 11),
  (⟨"PapersAreOnCats", "carryOut", "(LPapersAreOnCats$Shelf;)I"⟩, prog_1_method_3_code, 4, (some .int), 9, 208, 11)]
def jm_mt3 : List jm_MT := [(⟨"PapersAreOnCats", "cat", "(II)I"⟩, prog_1_method_4_code, 3, (some .int), 4, 94, 11),
  (⟨"PapersAreOnCats", "man", "(II)I"⟩, prog_1_method_5_code, 3, (some .int), 1, 21, 11),
  (⟨"PapersAreOnCats", "place", "(II)I"⟩, prog_1_method_6_code, 3, (some .int), 2, 42, 11),
  (⟨"PapersAreOnCats", "comes", "(II)I"⟩, prog_1_method_7_code, 4, (some .int), 4, 85, 11),
  (⟨"PapersAreOnCats", "waits", "(I)I"⟩, prog_1_method_8_code, 2, (some .int), 2, 42, 11),
  (⟨"PapersAreOnCats", "writes", "(II)I"⟩, prog_1_method_9_code, 4, (some .int), 2, 42, 11),
  (⟨"PapersAreOnCats", "lays", "(III)I"⟩, prog_1_method_10_code, 6, (some .int), 2, 42, 11),
  (⟨"PapersAreOnCats", "carries", "(II)I"⟩, prog_1_method_11_code, 4, (some .int), 2, 42, 11),
  (⟨"PapersAreOnCats", "hours", "(I)I"⟩, prog_1_method_12_code, 2, (some .int), 7, 163, 11),
  (⟨"PapersAreOnCats", "catThen", "(III)I"⟩, prog_1_method_13_code, 4, (some .int), 8, 184, 11),
  (⟨"PapersAreOnCats", "then", "(II)I"⟩, prog_1_method_14_code, 3, (some .int), 8, 184, 11),
  (⟨"PapersAreOnCats", "crosses", "(I)I"⟩, prog_1_method_15_code, 3, (some .int), 6, 141, 11),
  (⟨"PapersAreOnCats", "crossings", "(II)I"⟩, prog_1_method_16_code, 5, (some .int), 6, 141, 11),
  (⟨"PapersAreOnCats", "passes", "(I)I"⟩, prog_1_method_17_code, 2, (some .int), 7, 163, 11),
  (⟨"PapersAreOnCats", "hoursTillPassed", "(I)I"⟩, prog_1_method_18_code, 3, (some .int), 6, 141, 11),
  (⟨"PapersAreOnCats", "first", "()I"⟩, prog_1_method_19_code, 3, (some .int), 6, 141, 11),
  (⟨"PapersAreOnCats", "write", "(II)I"⟩, prog_1_method_20_code, 7, (some .int), 8, 185, 11),
  (⟨"PapersAreOnCats", "hoursTillPassedBy", "(II)I"⟩, prog_1_method_21_code, 3, (some .int), 7, 163, 11),
  (⟨"PapersAreOnCats", "good", "(I)I"⟩, prog_1_method_22_code, 3, (some .int), 2, 47, 11),
  (⟨"PapersAreOnCats", "putFish", "(IIII)I"⟩, prog_1_method_23_code, 9, (some .int), 7, 164, 11),
  (⟨"PapersAreOnCats", "hoursTillAt", "(II)I"⟩, prog_1_method_24_code, 4, (some .int), 6, 141, 11),
  (⟨"PapersAreOnCats", "together", "(II)I"⟩, prog_1_method_25_code, 6, (some .int), 6, 141, 11),
  (⟨"PapersAreOnCats", "all", "()I"⟩, prog_1_method_26_code, 3, (some .int), 9, 207, 11),
  (⟨"PapersAreOnCats", "couldPass", "(I)Z"⟩, prog_1_method_27_code, 3, (some .boolean), 8, 185, 11),
  (⟨"PapersAreOnCats", "deserted", "(I)I"⟩, prog_1_method_28_code, 4, (some .int), 6, 141, 11)]
def jm_mt4 : List jm_MT := [(⟨"PapersAreOnCats", "meet", "(II)I"⟩, prog_1_method_29_code, 4, (some .int), 6, 141, 11),
  (⟨"PapersAreOnCats", "shave", "(I)I"⟩, prog_1_method_30_code, 6, (some .int), 8, 184, 11),
  (⟨"PapersAreOnCats", "bribe", "(III)I"⟩, prog_1_method_31_code, 6, (some .int), 8, 184, 11),
  (⟨"PapersAreOnCats", "busiest", "(II)I"⟩, prog_1_method_32_code, 5, (some .int), 7, 164, 11),
  (⟨"PapersAreOnCats", "countVisits", "(I)V"⟩, prog_1_method_33_code, 4, none, 6, 141, 11),
  (⟨"PapersAreOnCats", "nearest", "(I)I"⟩, prog_1_method_34_code, 6, (some .int), 2, 40, 11),
  (⟨"PapersAreOnCats", "toFrontier", "(I)I"⟩, prog_1_method_35_code, 1, (some .int), 1, 20, 11),
  (⟨"PapersAreOnCats", "whatIs", "(III)I"⟩, prog_1_method_36_code, 8, (some .int), 7, 164, 11),
  (⟨"PapersAreOnCats", "suppose", "(III)V"⟩, prog_1_method_37_code, 4, none, 0, 0, 11),
  (⟨"PapersAreOnCats", "goesAsTold", "(LPapersAreOnCats$Shelf;I)Z"⟩, prog_1_method_38_code, 4, (some .boolean), 6, 141, 11),
  (⟨"PapersAreOnCats", "two", "(I)I"⟩, prog_1_method_39_code, 7, (some .int), 8, 186, 11),
  (⟨"PapersAreOnCats", "onSide1WithFish", "(III)I"⟩, prog_1_method_40_code, 4, (some .int), 7, 163, 11),
  (⟨"PapersAreOnCats", "dogs", "(IIIII)J"⟩, prog_1_method_41_code, 9, (some .long), 7, 164, 11),
  (⟨"PapersAreOnCats", "goWithDogs", "(II)V"⟩, prog_1_method_42_code, 4, none, 6, 141, 11),
  (⟨"PapersAreOnCats", "power", "(II)J"⟩, prog_1_method_43_code, 5, (some .long), 0, 0, 11),
  (⟨"PapersAreOnCats", "mean", "(I)J"⟩, prog_1_method_44_code, 4, (some .long), 2, 58, 11),
  (⟨"PapersAreOnCats", "inLeastTerms", "(JJI)J"⟩, prog_1_method_45_code, 9, (some .long), 1, 30, 11),
  (⟨"PapersAreOnCats", "commonDivisor", "(JJ)J"⟩, prog_1_method_46_code, 11, (some .long), 0, 0, 11),
  (⟨"PapersAreOnCats", "forged", "(II)I"⟩, prog_1_method_47_code, 6, (some .int), 5, 112, 11),
  (⟨"PapersAreOnCats", "canGo", "(IIII)Z"⟩, prog_1_method_48_code, 5, (some .boolean), 4, 88, 11),
  (⟨"PapersAreOnCats", "judge", "(I)I"⟩, prog_1_method_49_code, 5, (some .int), 6, 141, 11),
  (⟨"PapersAreOnCats", "nights", "(III)I"⟩, prog_1_method_50_code, 9, (some .int), 7, 163, 11),
  (⟨"PapersAreOnCats", "nextSeed", "(I)I"⟩, prog_1_method_51_code, 1, (some .int), 0, 0, 11),
  (⟨"PapersAreOnCats", "drawnPlace", "(I)I"⟩, prog_1_method_52_code, 1, (some .int), 0, 0, 11),
  (⟨"PapersAreOnCats", "image", "()I"⟩, prog_1_method_53_code, 1, (some .int), 2, 47, 11)]
def jm_mt5 : List jm_MT := [(⟨"PapersAreOnCats", "restore", "()I"⟩, prog_1_method_54_code, 1, (some .int), 2, 47, 11),
  (⟨"PapersAreOnCats", "count", "(I)I"⟩, prog_1_method_55_code, 2, (some .int), 3, 64, 11),
  (⟨"PapersAreOnCats", "keep", "(IIII)I"⟩, prog_1_method_56_code, 5, (some .int), 2, 42, 11),
  (⟨"PapersAreOnCats", "row", "(III)I"⟩, prog_1_method_57_code, 4, (some .int), 2, 45, 11),
  (⟨"PapersAreOnCats", "put", "(III)I"⟩, prog_1_method_58_code, 5, (some .int), 4, 85, 11),
  (⟨"PapersAreOnCats", "copy", "(IIIII)I"⟩, prog_1_method_60_code, 8, (some .int), 2, 42, 11),
  (⟨"PapersAreOnCats", "cost", "(I)I"⟩, prog_1_method_61_code, 3, (some .int), 4, 85, 11),
  (⟨"PapersAreOnCats", "lookAhead", "(I)V"⟩, prog_1_method_63_code, 2, none, 7, 163, 11),
  (⟨"PapersAreOnCats", "refusalOfRow", "(I)I"⟩, prog_1_method_64_code, 2, (some .int), 3, 64, 11),
  (⟨"PapersAreOnCats", "refusalOfKind", "(I)I"⟩, prog_1_method_65_code, 2, (some .int), 3, 64, 11),
  (⟨"PapersAreOnCats", "refusalUnlessHeld", "(II)I"⟩, prog_1_method_66_code, 3, (some .int), 2, 42, 11),
  (⟨"PapersAreOnCats", "isWithin", "(III)Z"⟩, prog_1_method_67_code, 3, (some .boolean), 0, 0, 11),
  (⟨"PapersAreOnCats", "isShelf", "(I)Z"⟩, prog_1_method_68_code, 1, (some .boolean), 1, 22, 11),
  (⟨"PapersAreOnCats", "isPlace", "(I)Z"⟩, prog_1_method_69_code, 1, (some .boolean), 1, 22, 11),
  (⟨"PapersAreOnCats", "isSide", "(I)Z"⟩, prog_1_method_70_code, 1, (some .boolean), 1, 22, 11),
  (⟨"PapersAreOnCats", "isKind", "(I)Z"⟩, prog_1_method_71_code, 1, (some .boolean), 1, 22, 11),
  (⟨"PapersAreOnCats", "isAhead", "(I)Z"⟩, prog_1_method_72_code, 1, (some .boolean), 1, 22, 11),
  (⟨"PapersAreOnCats", "sideOf", "(I)I"⟩, prog_1_method_73_code, 1, (some .int), 0, 0, 11),
  (⟨"PapersAreOnCatsModel", "isIn", "(III)Z"⟩, prog_14_method_2_code, 3, (some .boolean), 0, 0, 12),
  (⟨"PapersAreOnCatsModel", "least", "(II)I"⟩, prog_14_method_3_code, 2, (some .int), 0, 0, 12),
  (⟨"PapersAreOnCatsModel", "apart", "(II)I"⟩, prog_14_method_4_code, 2, (some .int), 0, 0, 12),
  (⟨"PapersAreOnCatsModel", "copies", "([I[I)V"⟩, prog_14_method_5_code, 3, none, 0, 0, 12),
  (⟨"PapersAreOnCatsModel", "ofC", "(II)I"⟩, prog_14_method_6_code, 2, (some .int), 0, 0, 12),
  (⟨"PapersAreOnCatsModel", "ofM", "(II)I"⟩, prog_14_method_7_code, 2, (some .int), 0, 0, 12),
  (⟨"PapersAreOnCatsModel", "isCat", "(I)Z"⟩, prog_14_method_8_code, 2, (some .boolean), 1, 22, 12)]
def jm_mt6 : List jm_MT := [(⟨"PapersAreOnCatsModel", "isMan", "(I)Z"⟩, prog_14_method_9_code, 2, (some .boolean), 1, 22, 12),
  (⟨"PapersAreOnCatsModel", "isPlace", "(I)Z"⟩, prog_14_method_10_code, 1, (some .boolean), 1, 22, 12),
  (⟨"PapersAreOnCatsModel", "has", "(II)Z"⟩, prog_14_method_11_code, 2, (some .boolean), 0, 0, 12),
  (⟨"PapersAreOnCatsModel", "bits", "(I)I"⟩, prog_14_method_12_code, 3, (some .int), 0, 0, 12),
  (⟨"PapersAreOnCatsModel", "sideOf", "(I)I"⟩, prog_14_method_13_code, 1, (some .int), 0, 0, 12),
  (⟨"PapersAreOnCatsModel", "mostAt", "([III)I"⟩, prog_14_method_14_code, 7, (some .int), 1, 21, 12),
  (⟨"PapersAreOnCatsModel", "nearestCat", "([II)I"⟩, prog_14_method_15_code, 5, (some .int), 1, 21, 12),
  (⟨"PapersAreOnCatsModel", "goal", "([II)I"⟩, prog_14_method_16_code, 4, (some .int), 2, 47, 12),
  (⟨"PapersAreOnCatsModel", "pace", "([III)I"⟩, prog_14_method_17_code, 4, (some .int), 1, 21, 12),
  (⟨"PapersAreOnCatsModel", "growsBy", "(I)I"⟩, prog_14_method_18_code, 1, (some .int), 0, 0, 12),
  (⟨"PapersAreOnCatsModel", "isReadable", "([II)Z"⟩, prog_14_method_19_code, 2, (some .boolean), 1, 21, 12),
  (⟨"PapersAreOnCatsModel", "passesBy", "([III)V"⟩, prog_14_method_20_code, 4, none, 2, 42, 12),
  (⟨"PapersAreOnCatsModel", "goes", "([IIZ)Z"⟩, prog_14_method_21_code, 8, (some .boolean), 3, 70, 12),
  (⟨"PapersAreOnCatsModel", "hour", "([IZ)I"⟩, prog_14_method_22_code, 4, (some .int), 4, 97, 12),
  (⟨"PapersAreOnCatsModel", "hoursOn", "([II)V"⟩, prog_14_method_23_code, 4, none, 5, 120, 12),
  (⟨"PapersAreOnCatsModel", "passedIn", "([I)I"⟩, prog_14_method_24_code, 3, (some .int), 1, 21, 12),
  (⟨"PapersAreOnCatsModel", "writesIn", "([III)V"⟩, prog_14_method_25_code, 3, none, 1, 21, 12),
  (⟨"PapersAreOnCatsModel", "canGo", "([II)Z"⟩, prog_14_method_26_code, 2, (some .boolean), 0, 0, 12),
  (⟨"PapersAreOnCatsModel", "here", "()I"⟩, prog_14_method_27_code, 1, (some .int), 0, 0, 12),
  (⟨"PapersAreOnCatsModel", "readsNumber", "(II)Z"⟩, prog_14_method_28_code, 4, (some .boolean), 1, 22, 12),
  (⟨"PapersAreOnCatsModel", "readsStatement", "()Z"⟩, prog_14_method_29_code, 3, (some .boolean), 2, 45, 12),
  (⟨"PapersAreOnCatsModel", "addsCat", "(III)V"⟩, prog_14_method_30_code, 5, none, 1, 21, 12),
  (⟨"PapersAreOnCatsModel", "addsMan", "(I)V"⟩, prog_14_method_31_code, 2, none, 1, 21, 12),
  (⟨"PapersAreOnCatsModel", "isDone", "(I)Z"⟩, prog_14_method_32_code, 4, (some .boolean), 6, 143, 12),
  (⟨"PapersAreOnCatsModel", "frontier", "(I)I"⟩, prog_14_method_33_code, 8, (some .int), 7, 166, 12)]
def jm_mt7 : List jm_MT := [(⟨"PapersAreOnCatsModel", "cat", "(II)I"⟩, prog_14_method_34_code, 3, (some .int), 3, 70, 12),
  (⟨"PapersAreOnCatsModel", "man", "(II)I"⟩, prog_14_method_35_code, 3, (some .int), 2, 43, 12),
  (⟨"PapersAreOnCatsModel", "catsAt", "([II)I"⟩, prog_14_method_36_code, 4, (some .int), 1, 21, 12),
  (⟨"PapersAreOnCatsModel", "place", "(II)I"⟩, prog_14_method_37_code, 3, (some .int), 2, 44, 12),
  (⟨"PapersAreOnCatsModel", "comes", "(II)I"⟩, prog_14_method_38_code, 4, (some .int), 3, 63, 12),
  (⟨"PapersAreOnCatsModel", "waits", "(I)I"⟩, prog_14_method_39_code, 2, (some .int), 2, 42, 12),
  (⟨"PapersAreOnCatsModel", "writes", "(II)I"⟩, prog_14_method_40_code, 4, (some .int), 2, 43, 12),
  (⟨"PapersAreOnCatsModel", "lays", "(III)I"⟩, prog_14_method_41_code, 6, (some .int), 2, 42, 12),
  (⟨"PapersAreOnCatsModel", "carries", "(II)I"⟩, prog_14_method_42_code, 4, (some .int), 2, 43, 12),
  (⟨"PapersAreOnCatsModel", "hours", "(I)I"⟩, prog_14_method_43_code, 2, (some .int), 6, 143, 12),
  (⟨"PapersAreOnCatsModel", "takes", "(I)V"⟩, prog_14_method_44_code, 2, none, 6, 143, 12),
  (⟨"PapersAreOnCatsModel", "catThen", "(III)I"⟩, prog_14_method_45_code, 4, (some .int), 7, 164, 12),
  (⟨"PapersAreOnCatsModel", "fishIn", "([I)I"⟩, prog_14_method_46_code, 3, (some .int), 0, 0, 12),
  (⟨"PapersAreOnCatsModel", "then", "(II)I"⟩, prog_14_method_47_code, 3, (some .int), 7, 164, 12),
  (⟨"PapersAreOnCatsModel", "crosses", "(I)I"⟩, prog_14_method_48_code, 3, (some .int), 5, 120, 12),
  (⟨"PapersAreOnCatsModel", "crossings", "(II)I"⟩, prog_14_method_49_code, 5, (some .int), 5, 120, 12),
  (⟨"PapersAreOnCatsModel", "passesIn", "(I)I"⟩, prog_14_method_50_code, 4, (some .int), 5, 120, 12),
  (⟨"PapersAreOnCatsModel", "passesOf", "(I)I"⟩, prog_14_method_51_code, 2, (some .int), 6, 143, 12),
  (⟨"PapersAreOnCatsModel", "passes", "(I)I"⟩, prog_14_method_52_code, 2, (some .int), 7, 164, 12),
  (⟨"PapersAreOnCatsModel", "first", "()I"⟩, prog_14_method_53_code, 5, (some .int), 7, 164, 12),
  (⟨"PapersAreOnCatsModel", "writeFor", "(II)I"⟩, prog_14_method_54_code, 7, (some .int), 6, 143, 12),
  (⟨"PapersAreOnCatsModel", "write", "(II)I"⟩, prog_14_method_55_code, 3, (some .int), 7, 169, 12),
  (⟨"PapersAreOnCatsModel", "good", "(I)I"⟩, prog_14_method_56_code, 4, (some .int), 5, 120, 12),
  (⟨"PapersAreOnCatsModel", "puts", "([III)V"⟩, prog_14_method_57_code, 3, none, 1, 21, 12),
  (⟨"PapersAreOnCatsModel", "isAtIn", "(II)I"⟩, prog_14_method_58_code, 5, (some .int), 5, 120, 12)]
def jm_mt8 : List jm_MT := [(⟨"PapersAreOnCatsModel", "putFish", "(IIII)I"⟩, prog_14_method_59_code, 9, (some .int), 6, 144, 12),
  (⟨"PapersAreOnCatsModel", "together", "(II)I"⟩, prog_14_method_60_code, 7, (some .int), 5, 120, 12),
  (⟨"PapersAreOnCatsModel", "all", "()I"⟩, prog_14_method_61_code, 3, (some .int), 7, 169, 12),
  (⟨"PapersAreOnCatsModel", "deserted", "(I)I"⟩, prog_14_method_62_code, 5, (some .int), 5, 120, 12),
  (⟨"PapersAreOnCatsModel", "meet", "(II)I"⟩, prog_14_method_63_code, 5, (some .int), 5, 120, 12),
  (⟨"PapersAreOnCatsModel", "shave", "(I)I"⟩, prog_14_method_64_code, 5, (some .int), 7, 164, 12),
  (⟨"PapersAreOnCatsModel", "bribe", "(III)I"⟩, prog_14_method_65_code, 6, (some .int), 7, 164, 12),
  (⟨"PapersAreOnCatsModel", "busiest", "(II)I"⟩, prog_14_method_66_code, 6, (some .int), 5, 120, 12),
  (⟨"PapersAreOnCatsModel", "farOf", "(I)I"⟩, prog_14_method_67_code, 3, (some .int), 1, 21, 12),
  (⟨"PapersAreOnCatsModel", "nearest", "(I)I"⟩, prog_14_method_68_code, 4, (some .int), 2, 43, 12),
  (⟨"PapersAreOnCatsModel", "leastOf", "(I)I"⟩, prog_14_method_69_code, 1, (some .int), 0, 0, 12),
  (⟨"PapersAreOnCatsModel", "whatIs", "(III)I"⟩, prog_14_method_70_code, 11, (some .int), 5, 120, 12),
  (⟨"PapersAreOnCatsModel", "onSide", "([II)I"⟩, prog_14_method_71_code, 5, (some .int), 1, 21, 12),
  (⟨"PapersAreOnCatsModel", "hasBy", "(IIII)I"⟩, prog_14_method_72_code, 5, (some .int), 6, 143, 12),
  (⟨"PapersAreOnCatsModel", "two", "(I)I"⟩, prog_14_method_73_code, 5, (some .int), 7, 167, 12),
  (⟨"PapersAreOnCatsModel", "gcd", "(JJ)J"⟩, prog_14_method_74_code, 10, (some .long), 0, 0, 12),
  (⟨"PapersAreOnCatsModel", "partOf", "(JJI)J"⟩, prog_14_method_75_code, 5, (some .long), 1, 29, 12),
  (⟨"PapersAreOnCatsModel", "dogs", "(IIIII)J"⟩, prog_14_method_76_code, 15, (some .long), 5, 120, 12),
  (⟨"PapersAreOnCatsModel", "mean", "(I)J"⟩, prog_14_method_77_code, 5, (some .long), 2, 53, 12),
  (⟨"PapersAreOnCatsModel", "forged", "(II)I"⟩, prog_14_method_78_code, 6, (some .int), 3, 64, 12),
  (⟨"PapersAreOnCatsModel", "judge", "(I)I"⟩, prog_14_method_79_code, 6, (some .int), 5, 120, 12),
  (⟨"PapersAreOnCatsModel", "drawn", "(I)I"⟩, prog_14_method_80_code, 2, (some .int), 0, 0, 12),
  (⟨"PapersAreOnCatsModel", "nights", "(III)I"⟩, prog_14_method_81_code, 7, (some .int), 6, 143, 12),
  (⟨"PapersAreOnCatsModel", "image", "()I"⟩, prog_14_method_82_code, 1, (some .int), 1, 22, 12),
  (⟨"PapersAreOnCatsModel", "restore", "()I"⟩, prog_14_method_83_code, 1, (some .int), 1, 22, 12)]
def jm_mt9 : List jm_MT := [(⟨"PapersAreOnCatsModel", "count", "(I)I"⟩, prog_14_method_84_code, 4, (some .int), 2, 43, 12),
  (⟨"PapersAreOnCatsModel", "thrown", "()I"⟩, prog_14_method_85_code, 1, (some .int), 0, 0, 12),
  (⟨"PapersAreOnCatsModel", "isShelf", "(I)Z"⟩, prog_14_method_86_code, 1, (some .boolean), 1, 22, 12),
  (⟨"PapersAreOnCatsModel", "wrongRow", "(II)I"⟩, prog_14_method_87_code, 3, (some .int), 2, 42, 12),
  (⟨"PapersAreOnCatsModel", "wrongKept", "(I)I"⟩, prog_14_method_88_code, 2, (some .int), 2, 42, 12),
  (⟨"PapersAreOnCatsModel", "keep", "(IIII)I"⟩, prog_14_method_89_code, 5, (some .int), 2, 42, 12),
  (⟨"PapersAreOnCatsModel", "row", "(III)I"⟩, prog_14_method_90_code, 5, (some .int), 2, 42, 12),
  (⟨"PapersAreOnCatsModel", "put", "(III)I"⟩, prog_14_method_91_code, 5, (some .int), 3, 64, 12),
  (⟨"PapersAreOnCatsModel", "element", "(II)J"⟩, prog_14_method_92_code, 3, (some .long), 2, 42, 12),
  (⟨"PapersAreOnCatsModel", "copy", "(IIIII)I"⟩, prog_14_method_93_code, 8, (some .int), 2, 42, 12),
  (⟨"PapersAreOnCatsModel", "costBy", "(II)I"⟩, prog_14_method_94_code, 2, (some .int), 0, 0, 12),
  (⟨"PapersAreOnCatsModel", "cost", "(I)I"⟩, prog_14_method_95_code, 3, (some .int), 3, 63, 12),
  (⟨"PapersAreOnCatsModel", "toss", "(I)I"⟩, prog_14_method_96_code, 5, (some .int), 3, 63, 12),
  (⟨"java/lang/Integer", "bitCount", "(I)I"⟩, prog_18_method_49_code, 1, (some .int), 0, 0, 13),
  (⟨"java/util/Arrays", "fill", "([II)V"⟩, prog_24_method_103_code, 4, none, 0, 0, 14)]
def jm_mt : List jm_MT := jm_mt0 ++ (jm_mt1 ++ (jm_mt2 ++ (jm_mt3 ++ (jm_mt4 ++ (jm_mt5 ++ (jm_mt6 ++ (jm_mt7 ++ (jm_mt8 ++ (jm_mt9)))))))))
def jm_i0 : List jm_IT := [(0, .aload_n 1, 1, 0), (1, .aload_n 1, 1, 0), (2, .getfield 9, 3, 0), (5, .aload_n 1, 1, 0), (6, .getfield 15, 3, 0), (9, .iload_n 2, 1, 0), (10, .iaload, 1, 0), (11, .invokevirtual 18, 3, 0), (14, .ireturn, 1, 0)]
def jm_i1 : List jm_IT := [(0, .iconst 1, 1, 1), (1, .iload_n 1, 1, 0), (2, .iconst 4, 1, 4), (3, .idiv, 1, 0), (4, .iadd, 1, 0), (5, .ireturn, 1, 0)]
def jm_i2 : List jm_IT := [(0, .iconst 1, 1, 1), (1, .ireturn, 1, 0)]
def jm_i3 : List jm_IT := [(0, .iload_n 1, 1, 0), (1, .bipush 48, 2, 48), (3, .if_icmp .ge 7, 3, 0), (6, .iconst 1, 1, 1), (7, .goto 4, 3, 0), (10, .iconst 0, 1, 0), (11, .ireturn, 1, 0)]
def jm_i4 : List jm_IT := [(0, .iconst 3, 1, 3), (1, .ireturn, 1, 0)]
def jm_i5 : List jm_IT := [(0, .iload_n 1, 1, 0), (1, .ireturn, 1, 0)]
def jm_i6 : List jm_IT := [(0, .aload_n 1, 1, 0), (1, .getfield 9, 3, 0), (4, .iconst 0, 1, 0), (5, .aload_n 0, 1, 0), (6, .getfield 9, 3, 0), (9, .iconst 0, 1, 0), (10, .bipush 6, 2, 6), (12, .invokestatic 44, 3, 0), (15, .aload_n 1, 1, 0), (16, .getfield 15, 3, 0), (19, .iconst 0, 1, 0), (20, .aload_n 0, 1, 0), (21, .getfield 15, 3, 0), (24, .iconst 0, 1, 0), (25, .bipush 6, 2, 6), (27, .invokestatic 44, 3, 0), (30, .aload_n 1, 1, 0), (31, .getfield 18, 3, 0), (34, .iconst 0, 1, 0), (35, .aload_n 0, 1, 0), (36, .getfield 18, 3, 0), (39, .iconst 0, 1, 0), (40, .bipush 6, 2, 6), (42, .invokestatic 44, 3, 0), (45, .aload_n 1, 1, 0), (46, .getfield 21, 3, 0), (49, .iconst 0, 1, 0), (50, .aload_n 0, 1, 0), (51, .getfield 21, 3, 0), (54, .iconst 0, 1, 0), (55, .bipush 6, 2, 6), (57, .invokestatic 44, 3, 0), (60, .aload_n 1, 1, 0), (61, .getfield 24, 3, 0), (64, .iconst 0, 1, 0), (65, .aload_n 0, 1, 0), (66, .getfield 24, 3, 0), (69, .iconst 0, 1, 0), (70, .bipush 6, 2, 6), (72, .invokestatic 44, 3, 0), (75, .aload_n 1, 1, 0), (76, .getfield 27, 3, 0), (79, .iconst 0, 1, 0), (80, .aload_n 0, 1, 0), (81, .getfield 27, 3, 0), (84, .iconst 0, 1, 0), (85, .bipush 6, 2, 6), (87, .invokestatic 44, 3, 0), (90, .aload_n 1, 1, 0), (91, .getfield 30, 3, 0), (94, .iconst 0, 1, 0), (95, .aload_n 0, 1, 0), (96, .getfield 30, 3, 0), (99, .iconst 0, 1, 0), (100, .bipush 16, 2, 16), (102, .invokestatic 44, 3, 0), (105, .aload_n 1, 1, 0), (106, .getfield 33, 3, 0), (109, .iconst 0, 1, 0), (110, .aload_n 0, 1, 0), (111, .getfield 33, 3, 0), (114, .iconst 0, 1, 0), (115, .bipush 16, 2, 16), (117, .invokestatic 44, 3, 0), (120, .aload_n 0, 1, 0), (121, .aload_n 1, 1, 0), (122, .getfield 50, 3, 0), (125, .putfield 50, 3, 0), (128, .aload_n 0, 1, 0), (129, .aload_n 1, 1, 0), (130, .getfield 53, 3, 0), (133, .putfield 53, 3, 0), (136, .aload_n 0, 1, 0), (137, .aload_n 1, 1, 0), (138, .getfield 36, 3, 0), (141, .putfield 36, 3, 0), (144, .aload_n 0, 1, 0), (145, .aload_n 1, 1, 0), (146, .getfield 56, 3, 0), (149, .putfield 56, 3, 0), (152, .aload_n 0, 1, 0), (153, .aload_n 1, 1, 0), (154, .getfield 59, 3, 0), (157, .putfield 59, 3, 0), (160, .aload_n 0, 1, 0), (161, .aload_n 1, 1, 0), (162, .getfield 62, 3, 0), (165, .putfield 62, 3, 0), (168, .return_, 1, 0)]
def jm_i7 : List jm_IT := [(0, .iload_n 1, 1, 0), (1, .ifCond .lt 15, 3, 0), (4, .iload_n 1, 1, 0), (5, .aload_n 0, 1, 0), (6, .getfield 50, 3, 0), (9, .if_icmp .ge 7, 3, 0), (12, .iconst 1, 1, 1), (13, .goto 4, 3, 0), (16, .iconst 0, 1, 0), (17, .ireturn, 1, 0)]
def jm_i8 : List jm_IT := [(0, .iload_n 1, 1, 0), (1, .ifCond .lt 15, 3, 0), (4, .iload_n 1, 1, 0), (5, .aload_n 0, 1, 0), (6, .getfield 53, 3, 0), (9, .if_icmp .ge 7, 3, 0), (12, .iconst 1, 1, 1), (13, .goto 4, 3, 0), (16, .iconst 0, 1, 0), (17, .ireturn, 1, 0)]
def jm_i9 : List jm_IT := [(0, .iload_n 1, 1, 0), (1, .bipush 9, 2, 9), (3, .if_icmp .eq 11, 3, 0), (6, .aload_n 0, 1, 0), (7, .iload_n 1, 1, 0), (8, .invokevirtual 65, 3, 0), (11, .ifCond .eq 7, 3, 0), (14, .iconst 1, 1, 1), (15, .goto 4, 3, 0), (18, .iconst 0, 1, 0), (19, .ireturn, 1, 0)]
def jm_i10 : List jm_IT := [(0, .aload_n 0, 1, 0), (1, .getfield 59, 3, 0), (4, .iload_n 1, 1, 0), (5, .ishr, 1, 0), (6, .iconst 1, 1, 1), (7, .iand, 1, 0), (8, .iconst 1, 1, 1), (9, .if_icmp .ne 7, 3, 0), (12, .iconst 1, 1, 1), (13, .goto 4, 3, 0), (16, .iconst 0, 1, 0), (17, .ireturn, 1, 0)]
def jm_i11 : List jm_IT := [(0, .aload_n 0, 1, 0), (1, .getfield 62, 3, 0), (4, .iload_n 1, 1, 0), (5, .ishr, 1, 0), (6, .iconst 1, 1, 1), (7, .iand, 1, 0), (8, .iconst 1, 1, 1), (9, .if_icmp .ne 7, 3, 0), (12, .iconst 1, 1, 1), (13, .goto 4, 3, 0), (16, .iconst 0, 1, 0), (17, .ireturn, 1, 0)]
def jm_i12 : List jm_IT := [(0, .aload_n 0, 1, 0), (1, .getfield 56, 3, 0), (4, .aload_n 0, 1, 0), (5, .getfield 36, 3, 0), (8, .iload_n 1, 1, 0), (9, .iadd, 1, 0), (10, .bipush 24, 2, 24), (12, .idiv, 1, 0), (13, .iadd, 1, 0), (14, .sipush 999, 3, 999), (17, .if_icmp .gt 7, 3, 0), (20, .iconst 1, 1, 1), (21, .goto 4, 3, 0), (24, .iconst 0, 1, 0), (25, .ireturn, 1, 0)]
def jm_i13 : List jm_IT := [(0, .aload_n 0, 1, 0), (1, .getfield 50, 3, 0), (4, .bipush 6, 2, 6), (6, .if_icmp .lt 5, 3, 0), (9, .iconst 0, 1, 0), (10, .ireturn, 1, 0), (11, .aload_n 0, 1, 0), (12, .getfield 9, 3, 0), (15, .aload_n 0, 1, 0), (16, .getfield 50, 3, 0), (19, .iload_n 1, 1, 0), (20, .iastore, 1, 0), (21, .aload_n 0, 1, 0), (22, .getfield 15, 3, 0), (25, .aload_n 0, 1, 0), (26, .getfield 50, 3, 0), (29, .iload_n 2, 1, 0), (30, .iastore, 1, 0), (31, .aload_n 0, 1, 0), (32, .getfield 18, 3, 0), (35, .aload_n 0, 1, 0), (36, .getfield 50, 3, 0), (39, .iload_n 3, 1, 0), (40, .iastore, 1, 0), (41, .aload_n 0, 1, 0), (42, .getfield 21, 3, 0), (45, .aload_n 0, 1, 0), (46, .getfield 50, 3, 0), (49, .iconst 0, 1, 0), (50, .iastore, 1, 0), (51, .aload_n 0, 1, 0), (52, .getfield 24, 3, 0), (55, .aload_n 0, 1, 0), (56, .getfield 50, 3, 0), (59, .bipush 9, 2, 9), (61, .iastore, 1, 0), (62, .aload_n 0, 1, 0), (63, .dup, 1, 0), (64, .getfield 50, 3, 0), (67, .iconst 1, 1, 1), (68, .iadd, 1, 0), (69, .putfield 50, 3, 0), (72, .iconst 1, 1, 1), (73, .ireturn, 1, 0)]
def jm_i14 : List jm_IT := [(0, .aload_n 0, 1, 0), (1, .getfield 53, 3, 0), (4, .bipush 6, 2, 6), (6, .if_icmp .lt 5, 3, 0), (9, .iconst 0, 1, 0), (10, .ireturn, 1, 0), (11, .aload_n 0, 1, 0), (12, .getfield 27, 3, 0), (15, .aload_n 0, 1, 0), (16, .getfield 53, 3, 0), (19, .iload_n 1, 1, 0), (20, .iastore, 1, 0), (21, .aload_n 0, 1, 0), (22, .dup, 1, 0), (23, .getfield 53, 3, 0), (26, .iconst 1, 1, 1), (27, .iadd, 1, 0), (28, .putfield 53, 3, 0), (31, .iconst 1, 1, 1), (32, .ireturn, 1, 0)]
def jm_i15 : List jm_IT := [(0, .aload_n 0, 1, 0), (1, .getfield 24, 3, 0), (4, .iload_n 1, 1, 0), (5, .iload_n 2, 1, 0), (6, .iastore, 1, 0), (7, .aload_n 0, 1, 0), (8, .getfield 21, 3, 0), (11, .iload_n 1, 1, 0), (12, .iconst 0, 1, 0), (13, .iastore, 1, 0), (14, .return_, 1, 0)]
def jm_i16 : List jm_IT := [(0, .aload_n 0, 1, 0), (1, .getfield 30, 3, 0), (4, .iload_n 1, 1, 0), (5, .bipush 9, 2, 9), (7, .aload_n 0, 1, 0), (8, .getfield 30, 3, 0), (11, .iload_n 1, 1, 0), (12, .iaload, 1, 0), (13, .iload_n 2, 1, 0), (14, .iadd, 1, 0), (15, .invokestatic 69, 3, 0), (18, .iastore, 1, 0), (19, .return_, 1, 0)]
def jm_i17 : List jm_IT := [(0, .iconst 0, 1, 0), (1, .istore_n 2, 1, 0), (2, .iload_n 2, 1, 0), (3, .iload_n 1, 1, 0), (4, .if_icmp .ge 13, 3, 0), (7, .aload_n 0, 1, 0), (8, .invokevirtual 75, 3, 0), (11, .iinc 2 1, 3, 1), (14, .goto (-12), 3, 0), (17, .return_, 1, 0)]
def jm_i18 : List jm_IT := [(0, .aload_n 0, 1, 0), (1, .iconst 0, 1, 0), (2, .putfield 62, 3, 0), (5, .iconst 0, 1, 0), (6, .istore_n 1, 1, 0), (7, .iload_n 1, 1, 0), (8, .aload_n 0, 1, 0), (9, .getfield 50, 3, 0), (12, .if_icmp .ge 63, 3, 0), (15, .aload_n 0, 1, 0), (16, .getfield 18, 3, 0), (19, .iload_n 1, 1, 0), (20, .iaload, 1, 0), (21, .istore_n 2, 1, 0), (22, .aload_n 0, 1, 0), (23, .iload_n 1, 1, 0), (24, .invokevirtual 78, 3, 0), (27, .aload_n 0, 1, 0), (28, .iload_n 1, 1, 0), (29, .invokevirtual 82, 3, 0), (32, .iload_n 2, 1, 0), (33, .invokestatic 85, 3, 0), (36, .aload_n 0, 1, 0), (37, .getfield 18, 3, 0), (40, .iload_n 1, 1, 0), (41, .iaload, 1, 0), (42, .invokestatic 85, 3, 0), (45, .if_icmp .eq 24, 3, 0), (48, .aload_n 0, 1, 0), (49, .dup, 1, 0), (50, .getfield 62, 3, 0), (53, .iconst 1, 1, 1), (54, .iload_n 1, 1, 0), (55, .ishl, 1, 0), (56, .ior, 1, 0), (57, .putfield 62, 3, 0), (60, .aload_n 0, 1, 0), (61, .iload_n 1, 1, 0), (62, .iload_n 2, 1, 0), (63, .invokestatic 85, 3, 0), (66, .invokevirtual 89, 3, 0), (69, .iinc 1 1, 3, 1), (72, .goto (-65), 3, 0), (75, .aload_n 0, 1, 0), (76, .invokevirtual 93, 3, 0), (79, .return_, 1, 0)]
def jm_i19 : List jm_IT := [(0, .aload_n 0, 1, 0), (1, .iconst 0, 1, 0), (2, .putfield 62, 3, 0), (5, .iconst 0, 1, 0), (6, .istore_n 1, 1, 0), (7, .iload_n 1, 1, 0), (8, .aload_n 0, 1, 0), (9, .getfield 50, 3, 0), (12, .if_icmp .ge 14, 3, 0), (15, .aload_n 0, 1, 0), (16, .iload_n 1, 1, 0), (17, .invokevirtual 82, 3, 0), (20, .iinc 1 1, 3, 1), (23, .goto (-16), 3, 0), (26, .aload_n 0, 1, 0), (27, .invokevirtual 93, 3, 0), (30, .return_, 1, 0)]
def jm_i20 : List jm_IT := [(0, .aload_n 0, 1, 0), (1, .getfield 18, 3, 0), (4, .iload_n 1, 1, 0), (5, .iaload, 1, 0), (6, .istore_n 2, 1, 0), (7, .aload_n 0, 1, 0), (8, .iload_n 1, 1, 0), (9, .aload_n 0, 1, 0), (10, .getfield 36, 3, 0), (13, .invokevirtual 96, 3, 0), (16, .istore_n 3, 1, 0), (17, .aload_n 0, 1, 0), (18, .iload_n 1, 1, 0), (19, .invokevirtual 99, 3, 0), (22, .iload_n 2, 1, 0), (23, .isub, 1, 0), (24, .istore 4, 2, 0), (26, .iload_n 2, 1, 0), (27, .iload_n 3, 1, 0), (28, .ineg, 1, 0), (29, .iload_n 3, 1, 0), (30, .iload 4, 2, 0), (32, .invokestatic 69, 3, 0), (35, .invokestatic 102, 3, 0), (38, .iadd, 1, 0), (39, .istore 5, 2, 0), (41, .aload_n 0, 1, 0), (42, .getfield 18, 3, 0), (45, .iload_n 1, 1, 0), (46, .iload 5, 2, 0), (48, .iastore, 1, 0), (49, .iload 5, 2, 0), (51, .iload_n 2, 1, 0), (52, .if_icmp .eq 24, 3, 0), (55, .aload_n 0, 1, 0), (56, .getfield 30, 3, 0), (59, .iload 5, 2, 0), (61, .iaload, 1, 0), (62, .ifCond .le 14, 3, 0), (65, .aload_n 0, 1, 0), (66, .getfield 30, 3, 0), (69, .iload 5, 2, 0), (71, .dup2, 1, 0), (72, .iaload, 1, 0), (73, .iconst 1, 1, 1), (74, .isub, 1, 0), (75, .iastore, 1, 0), (76, .return_, 1, 0)]
def jm_i21 : List jm_IT := [(0, .aload_n 0, 1, 0), (1, .getfield 21, 3, 0), (4, .iload_n 1, 1, 0), (5, .bipush 99, 2, 99), (7, .aload_n 0, 1, 0), (8, .getfield 21, 3, 0), (11, .iload_n 1, 1, 0), (12, .iaload, 1, 0), (13, .aload_n 0, 1, 0), (14, .getfield 40, 3, 0), (17, .aload_n 0, 1, 0), (18, .getfield 9, 3, 0), (21, .iload_n 1, 1, 0), (22, .iaload, 1, 0), (23, .aaload, 1, 0), (24, .invokevirtual 105, 3, 0), (27, .iadd, 1, 0), (28, .invokestatic 69, 3, 0), (31, .iastore, 1, 0), (32, .return_, 1, 0)]
def jm_i22 : List jm_IT := [(0, .aload_n 0, 1, 0), (1, .getfield 24, 3, 0), (4, .iload_n 1, 1, 0), (5, .iaload, 1, 0), (6, .istore_n 3, 1, 0), (7, .aload_n 0, 1, 0), (8, .iload_n 1, 1, 0), (9, .invokevirtual 111, 3, 0), (12, .ifCond .eq 50, 3, 0), (15, .aload_n 0, 1, 0), (16, .iload_n 3, 1, 0), (17, .invokevirtual 65, 3, 0), (20, .ifCond .eq 42, 3, 0), (23, .aload_n 0, 1, 0), (24, .getfield 27, 3, 0), (27, .iload_n 3, 1, 0), (28, .iaload, 1, 0), (29, .iload_n 2, 1, 0), (30, .if_icmp .ne 32, 3, 0), (33, .aload_n 0, 1, 0), (34, .iload_n 3, 1, 0), (35, .invokevirtual 114, 3, 0), (38, .ifCond .ne 24, 3, 0), (41, .aload_n 0, 1, 0), (42, .dup, 1, 0), (43, .getfield 59, 3, 0), (46, .iconst 1, 1, 1), (47, .iload_n 3, 1, 0), (48, .ishl, 1, 0), (49, .ior, 1, 0), (50, .putfield 59, 3, 0), (53, .aload_n 0, 1, 0), (54, .getfield 27, 3, 0), (57, .iload_n 3, 1, 0), (58, .iconst 1, 1, 1), (59, .iload_n 2, 1, 0), (60, .isub, 1, 0), (61, .iastore, 1, 0), (62, .return_, 1, 0)]
def jm_i23 : List jm_IT := [(0, .aload_n 0, 1, 0), (1, .dup, 1, 0), (2, .getfield 36, 3, 0), (5, .iconst 1, 1, 1), (6, .iadd, 1, 0), (7, .putfield 36, 3, 0), (10, .aload_n 0, 1, 0), (11, .getfield 36, 3, 0), (14, .bipush 24, 2, 24), (16, .if_icmp .ne 18, 3, 0), (19, .aload_n 0, 1, 0), (20, .iconst 0, 1, 0), (21, .putfield 36, 3, 0), (24, .aload_n 0, 1, 0), (25, .dup, 1, 0), (26, .getfield 56, 3, 0), (29, .iconst 1, 1, 1), (30, .iadd, 1, 0), (31, .putfield 56, 3, 0), (34, .return_, 1, 0)]
def jm_i24 : List jm_IT := [(0, .aload_n 0, 1, 0), (1, .getfield 40, 3, 0), (4, .aload_n 0, 1, 0), (5, .getfield 9, 3, 0), (8, .iload_n 1, 1, 0), (9, .iaload, 1, 0), (10, .aaload, 1, 0), (11, .aload_n 0, 1, 0), (12, .iload_n 1, 1, 0), (13, .invokevirtual 117, 3, 0), (16, .ireturn, 1, 0)]
def jm_i25 : List jm_IT := [(0, .aload_n 0, 1, 0), (1, .getfield 40, 3, 0), (4, .aload_n 0, 1, 0), (5, .getfield 9, 3, 0), (8, .iload_n 1, 1, 0), (9, .iaload, 1, 0), (10, .aaload, 1, 0), (11, .aload_n 0, 1, 0), (12, .getfield 15, 3, 0), (15, .iload_n 1, 1, 0), (16, .iaload, 1, 0), (17, .iload_n 2, 1, 0), (18, .invokevirtual 121, 3, 0), (21, .ireturn, 1, 0)]
def jm_i26 : List jm_IT := [(0, .aload_n 0, 1, 0), (1, .getfield 24, 3, 0), (4, .iload_n 1, 1, 0), (5, .iaload, 1, 0), (6, .bipush 9, 2, 9), (8, .if_icmp .eq 30, 3, 0), (11, .aload_n 0, 1, 0), (12, .getfield 40, 3, 0), (15, .aload_n 0, 1, 0), (16, .getfield 9, 3, 0), (19, .iload_n 1, 1, 0), (20, .iaload, 1, 0), (21, .aaload, 1, 0), (22, .aload_n 0, 1, 0), (23, .getfield 21, 3, 0), (26, .iload_n 1, 1, 0), (27, .iaload, 1, 0), (28, .invokevirtual 124, 3, 0), (31, .ifCond .eq 7, 3, 0), (34, .iconst 1, 1, 1), (35, .goto 4, 3, 0), (38, .iconst 0, 1, 0), (39, .ireturn, 1, 0)]
def jm_i27 : List jm_IT := [(0, .iconst 0, 1, 0), (1, .istore_n 1, 1, 0), (2, .iconst 0, 1, 0), (3, .istore_n 2, 1, 0), (4, .iload_n 2, 1, 0), (5, .aload_n 0, 1, 0), (6, .getfield 50, 3, 0), (9, .if_icmp .ge 23, 3, 0), (12, .aload_n 0, 1, 0), (13, .iload_n 2, 1, 0), (14, .invokevirtual 111, 3, 0), (17, .ifCond .eq 9, 3, 0), (20, .iload_n 1, 1, 0), (21, .iconst 1, 1, 1), (22, .iload_n 2, 1, 0), (23, .ishl, 1, 0), (24, .ior, 1, 0), (25, .istore_n 1, 1, 0), (26, .iinc 2 1, 3, 1), (29, .goto (-25), 3, 0), (32, .iload_n 1, 1, 0), (33, .ireturn, 1, 0)]
def jm_i28 : List jm_IT := [(0, .iconst 0, 1, 0), (1, .istore_n 2, 1, 0), (2, .iconst 0, 1, 0), (3, .istore_n 3, 1, 0), (4, .iload_n 3, 1, 0), (5, .aload_n 0, 1, 0), (6, .getfield 50, 3, 0), (9, .if_icmp .ge 25, 3, 0), (12, .aload_n 0, 1, 0), (13, .getfield 18, 3, 0), (16, .iload_n 3, 1, 0), (17, .iaload, 1, 0), (18, .iload_n 1, 1, 0), (19, .if_icmp .ne 9, 3, 0), (22, .iload_n 2, 1, 0), (23, .iconst 1, 1, 1), (24, .iload_n 3, 1, 0), (25, .ishl, 1, 0), (26, .ior, 1, 0), (27, .istore_n 2, 1, 0), (28, .iinc 3 1, 3, 1), (31, .goto (-27), 3, 0), (34, .iload_n 2, 1, 0), (35, .ireturn, 1, 0)]
def jm_i29 : List jm_IT := [(0, .iconst 0, 1, 0), (1, .istore_n 1, 1, 0), (2, .iconst 0, 1, 0), (3, .istore_n 2, 1, 0), (4, .iload_n 2, 1, 0), (5, .aload_n 0, 1, 0), (6, .getfield 50, 3, 0), (9, .if_icmp .ge 20, 3, 0), (12, .iload_n 1, 1, 0), (13, .iconst 1, 1, 1), (14, .aload_n 0, 1, 0), (15, .getfield 18, 3, 0), (18, .iload_n 2, 1, 0), (19, .iaload, 1, 0), (20, .ishl, 1, 0), (21, .ior, 1, 0), (22, .istore_n 1, 1, 0), (23, .iinc 2 1, 3, 1), (26, .goto (-22), 3, 0), (29, .iload_n 1, 1, 0), (30, .ireturn, 1, 0)]
def jm_i30 : List jm_IT := [(0, .iconst 0, 1, 0), (1, .istore_n 1, 1, 0), (2, .iconst 0, 1, 0), (3, .istore_n 2, 1, 0), (4, .iload_n 2, 1, 0), (5, .aload_n 0, 1, 0), (6, .getfield 50, 3, 0), (9, .if_icmp .ge 21, 3, 0), (12, .iload_n 1, 1, 0), (13, .aload_n 0, 1, 0), (14, .getfield 18, 3, 0), (17, .iload_n 2, 1, 0), (18, .iaload, 1, 0), (19, .invokestatic 85, 3, 0), (22, .iadd, 1, 0), (23, .istore_n 1, 1, 0), (24, .iinc 2 1, 3, 1), (27, .goto (-23), 3, 0), (30, .iload_n 1, 1, 0), (31, .ireturn, 1, 0)]
def jm_i31 : List jm_IT := [(0, .iconst 0, 1, 0), (1, .istore_n 1, 1, 0), (2, .iconst 0, 1, 0), (3, .istore_n 2, 1, 0), (4, .iload_n 2, 1, 0), (5, .bipush 16, 2, 16), (7, .if_icmp .ge 18, 3, 0), (10, .iload_n 1, 1, 0), (11, .aload_n 0, 1, 0), (12, .getfield 30, 3, 0), (15, .iload_n 2, 1, 0), (16, .iaload, 1, 0), (17, .iadd, 1, 0), (18, .istore_n 1, 1, 0), (19, .iinc 2 1, 3, 1), (22, .goto (-18), 3, 0), (25, .iload_n 1, 1, 0), (26, .ireturn, 1, 0)]
def jm_i32 : List jm_IT := [(0, .iload_n 2, 1, 0), (1, .istore_n 3, 1, 0), (2, .iconst 0, 1, 0), (3, .istore 4, 2, 0), (5, .iload 4, 2, 0), (7, .bipush 16, 2, 16), (9, .if_icmp .ge 48, 3, 0), (12, .aload_n 1, 1, 0), (13, .iload 4, 2, 0), (15, .iaload, 1, 0), (16, .aload_n 1, 1, 0), (17, .iload_n 3, 1, 0), (18, .iaload, 1, 0), (19, .if_icmp .gt 29, 3, 0), (22, .aload_n 1, 1, 0), (23, .iload 4, 2, 0), (25, .iaload, 1, 0), (26, .aload_n 1, 1, 0), (27, .iload_n 3, 1, 0), (28, .iaload, 1, 0), (29, .if_icmp .ne 22, 3, 0), (32, .iload 4, 2, 0), (34, .iload_n 2, 1, 0), (35, .isub, 1, 0), (36, .invokestatic 127, 3, 0), (39, .iload_n 3, 1, 0), (40, .iload_n 2, 1, 0), (41, .isub, 1, 0), (42, .invokestatic 127, 3, 0), (45, .if_icmp .ge 6, 3, 0), (48, .iload 4, 2, 0), (50, .istore_n 3, 1, 0), (51, .iinc 4 1, 3, 1), (54, .goto (-49), 3, 0), (57, .iload_n 3, 1, 0), (58, .ireturn, 1, 0)]
def jm_i33 : List jm_IT := [(0, .iload_n 1, 1, 0), (1, .istore_n 2, 1, 0), (2, .bipush 16, 2, 16), (4, .istore_n 3, 1, 0), (5, .iconst 0, 1, 0), (6, .istore 4, 2, 0), (8, .iload 4, 2, 0), (10, .aload_n 0, 1, 0), (11, .getfield 50, 3, 0), (14, .if_icmp .ge 46, 3, 0), (17, .aload_n 0, 1, 0), (18, .getfield 18, 3, 0), (21, .iload 4, 2, 0), (23, .iaload, 1, 0), (24, .aload_n 0, 1, 0), (25, .getfield 18, 3, 0), (28, .iload_n 1, 1, 0), (29, .iaload, 1, 0), (30, .isub, 1, 0), (31, .invokestatic 127, 3, 0), (34, .istore 5, 2, 0), (36, .iload 4, 2, 0), (38, .iload_n 1, 1, 0), (39, .if_icmp .eq 15, 3, 0), (42, .iload 5, 2, 0), (44, .iload_n 3, 1, 0), (45, .if_icmp .ge 9, 3, 0), (48, .iload 4, 2, 0), (50, .istore_n 2, 1, 0), (51, .iload 5, 2, 0), (53, .istore_n 3, 1, 0), (54, .iinc 4 1, 3, 1), (57, .goto (-49), 3, 0), (60, .aload_n 0, 1, 0), (61, .getfield 18, 3, 0), (64, .iload_n 2, 1, 0), (65, .iaload, 1, 0), (66, .ireturn, 1, 0)]
def jm_i34 : List jm_IT := [(0, .aload_n 1, 1, 0), (1, .getfield 9, 3, 0), (4, .iconst 2, 1, 2), (5, .irem, 1, 0), (6, .ifCond .ne 15, 3, 0), (9, .bipush 15, 2, 15), (11, .aload_n 1, 1, 0), (12, .getfield 15, 3, 0), (15, .iload_n 2, 1, 0), (16, .iaload, 1, 0), (17, .isub, 1, 0), (18, .goto 9, 3, 0), (21, .aload_n 1, 1, 0), (22, .getfield 15, 3, 0), (25, .iload_n 2, 1, 0), (26, .iaload, 1, 0), (27, .ireturn, 1, 0)]
def jm_i35 : List jm_IT := [(0, .iconst 3, 1, 3), (1, .ireturn, 1, 0)]
def jm_i36 : List jm_IT := [(0, .aload_n 0, 1, 0), (1, .iload_n 1, 1, 0), (2, .invokespecial 19, 3, 0), (5, .iconst 2, 1, 2), (6, .idiv, 1, 0), (7, .ireturn, 1, 0)]
def jm_i37 : List jm_IT := [(0, .aload_n 1, 1, 0), (1, .aload_n 1, 1, 0), (2, .getfield 7, 3, 0), (5, .aload_n 1, 1, 0), (6, .getfield 13, 3, 0), (9, .iload_n 2, 1, 0), (10, .iaload, 1, 0), (11, .invokevirtual 16, 3, 0), (14, .ireturn, 1, 0)]
def jm_i38 : List jm_IT := [(0, .aload_n 0, 1, 0), (1, .iload_n 1, 1, 0), (2, .invokespecial 20, 3, 0), (5, .iload_n 1, 1, 0), (6, .iadd, 1, 0), (7, .ireturn, 1, 0)]
def jm_i39 : List jm_IT := [(0, .iload_n 2, 1, 0), (1, .iconst 3, 1, 3), (2, .irem, 1, 0), (3, .ifCond .ne 7, 3, 0), (6, .iconst 1, 1, 1), (7, .goto 4, 3, 0), (10, .iconst 0, 1, 0), (11, .ireturn, 1, 0)]
def jm_i40 : List jm_IT := [(0, .iconst 0, 1, 0), (1, .ireturn, 1, 0)]
def jm_i41 : List jm_IT := [(0, .aload_n 0, 1, 0), (1, .iconst 0, 1, 0), (2, .putfield 11, 3, 0), (5, .return_, 1, 0)]
def jm_i42 : List jm_IT := [(0, .aload_n 0, 1, 0), (1, .iconst 1, 1, 1), (2, .putfield 11, 3, 0), (5, .aload_n 0, 1, 0), (6, .iload_n 1, 1, 0), (7, .putfield 19, 3, 0), (10, .aload_n 0, 1, 0), (11, .iload_n 2, 1, 0), (12, .putfield 22, 3, 0), (15, .return_, 1, 0)]
def jm_i43 : List jm_IT := [(0, .aload_n 0, 1, 0), (1, .iconst 2, 1, 2), (2, .putfield 11, 3, 0), (5, .aload_n 0, 1, 0), (6, .iload_n 1, 1, 0), (7, .putfield 25, 3, 0), (10, .aload_n 0, 1, 0), (11, .iload_n 2, 1, 0), (12, .putfield 28, 3, 0), (15, .aload_n 0, 1, 0), (16, .getfield 15, 3, 0), (19, .iconst 0, 1, 0), (20, .invokestatic 31, 3, 0), (23, .return_, 1, 0)]
def jm_i44 : List jm_IT := [(0, .iload_n 1, 1, 0), (1, .ifCond .lt 15, 3, 0), (4, .iload_n 1, 1, 0), (5, .aload_n 0, 1, 0), (6, .getfield 28, 3, 0), (9, .if_icmp .ge 7, 3, 0), (12, .iconst 1, 1, 1), (13, .goto 4, 3, 0), (16, .iconst 0, 1, 0), (17, .ireturn, 1, 0)]
def jm_i45 : List jm_IT := [(0, .iload_n 1, 1, 0), (1, .ifCond .lt 21, 3, 0), (4, .iload_n 2, 1, 0), (5, .ifCond .lt 17, 3, 0), (8, .iload_n 2, 1, 0), (9, .aload_n 0, 1, 0), (10, .getfield 28, 3, 0), (13, .iload_n 1, 1, 0), (14, .isub, 1, 0), (15, .if_icmp .gt 7, 3, 0), (18, .iconst 1, 1, 1), (19, .goto 4, 3, 0), (22, .iconst 0, 1, 0), (23, .ireturn, 1, 0)]
def jm_i46 : List jm_IT := [(0, .aload_n 0, 1, 0), (1, .iload_n 1, 1, 0), (2, .invokevirtual 37, 3, 0), (5, .ifCond .eq 12, 3, 0), (8, .aload_n 0, 1, 0), (9, .getfield 15, 3, 0), (12, .iload_n 1, 1, 0), (13, .iaload, 1, 0), (14, .goto 4, 3, 0), (17, .iconst 0, 1, 0), (18, .ireturn, 1, 0)]
def jm_i47 : List jm_IT := [(0, .aload_n 0, 1, 0), (1, .iload_n 1, 1, 0), (2, .invokevirtual 37, 3, 0), (5, .ifCond .ne 4, 3, 0), (8, .return_, 1, 0), (9, .aload_n 0, 1, 0), (10, .getfield 25, 3, 0), (13, .lookupswitch 49 #[(0, 27), (1, 38)], 27, 0), (40, .aload_n 0, 1, 0), (41, .getfield 15, 3, 0), (44, .iload_n 1, 1, 0), (45, .iload_n 2, 1, 0), (46, .i2b, 1, 0), (47, .iastore, 1, 0), (48, .goto 21, 3, 0), (51, .aload_n 0, 1, 0), (52, .getfield 15, 3, 0), (55, .iload_n 1, 1, 0), (56, .iload_n 2, 1, 0), (57, .i2s, 1, 0), (58, .iastore, 1, 0), (59, .goto 10, 3, 0), (62, .aload_n 0, 1, 0), (63, .getfield 15, 3, 0), (66, .iload_n 1, 1, 0), (67, .iload_n 2, 1, 0), (68, .iastore, 1, 0), (69, .return_, 1, 0)]
def jm_i48 : List jm_IT := [(0, .aload_n 0, 1, 0), (1, .getfield 25, 3, 0), (4, .lookupswitch 61 #[(0, 28), (1, 44)], 28, 0), (32, .aload_n 0, 1, 0), (33, .iload_n 1, 1, 0), (34, .invokevirtual 41, 3, 0), (37, .bipush (-128), 2, (-128)), (39, .if_icmp .ne 7, 3, 0), (42, .iconst 1, 1, 1), (43, .goto 4, 3, 0), (46, .iconst 0, 1, 0), (47, .ireturn, 1, 0), (48, .aload_n 0, 1, 0), (49, .iload_n 1, 1, 0), (50, .invokevirtual 41, 3, 0), (53, .sipush (-32768), 3, (-32768)), (56, .if_icmp .ne 7, 3, 0), (59, .iconst 1, 1, 1), (60, .goto 4, 3, 0), (63, .iconst 0, 1, 0), (64, .ireturn, 1, 0), (65, .aload_n 0, 1, 0), (66, .iload_n 1, 1, 0), (67, .invokevirtual 41, 3, 0), (70, .ldc 45, 2, (-2147483648)), (72, .if_icmp .ne 7, 3, 0), (75, .iconst 1, 1, 1), (76, .goto 4, 3, 0), (79, .iconst 0, 1, 0), (80, .ireturn, 1, 0)]
def jm_i49 : List jm_IT := [(0, .aload_n 1, 1, 0), (1, .getfield 7, 3, 0), (4, .bipush 20, 2, 20), (6, .if_icmp .ge 11, 3, 0), (9, .aload_n 1, 1, 0), (10, .getfield 7, 3, 0), (13, .iconst 4, 1, 4), (14, .if_icmp .gt 7, 3, 0), (17, .iconst 1, 1, 1), (18, .goto 4, 3, 0), (21, .iconst 0, 1, 0), (22, .istore_n 3, 1, 0), (23, .iload_n 3, 1, 0), (24, .ifCond .eq 20, 3, 0), (27, .aload_n 1, 1, 0), (28, .aload_n 1, 1, 0), (29, .getfield 15, 3, 0), (32, .aload_n 1, 1, 0), (33, .getfield 19, 3, 0), (36, .iload_n 2, 1, 0), (37, .iaload, 1, 0), (38, .invokevirtual 22, 3, 0), (41, .goto 9, 3, 0), (44, .aload_n 0, 1, 0), (45, .aload_n 1, 1, 0), (46, .iload_n 2, 1, 0), (47, .invokespecial 26, 3, 0), (50, .ireturn, 1, 0)]
def jm_i50 : List jm_IT := [(0, .iconst 0, 1, 0), (1, .ireturn, 1, 0)]
def jm_i51 : List jm_IT := [(0, .iconst 1, 1, 1), (1, .ireturn, 1, 0)]
def jm_i52 : List jm_IT := [(0, .iconst 2, 1, 2), (1, .aload_n 0, 1, 0), (2, .iload_n 1, 1, 0), (3, .invokespecial 30, 3, 0), (6, .imul, 1, 0), (7, .ireturn, 1, 0)]
def jm_i53 : List jm_IT := [(0, .iconst 2, 1, 2), (1, .aload_n 0, 1, 0), (2, .iload_n 1, 1, 0), (3, .iload_n 2, 1, 0), (4, .invokespecial 7, 3, 0), (7, .imul, 1, 0), (8, .ireturn, 1, 0)]
def jm_i54 : List jm_IT := [(0, .aload_n 0, 1, 0), (1, .iload_n 1, 1, 0), (2, .invokespecial 11, 3, 0), (5, .iload_n 1, 1, 0), (6, .iadd, 1, 0), (7, .ireturn, 1, 0)]
def jm_i55 : List jm_IT := [(0, .sipush 200, 3, 200), (3, .aload_n 0, 1, 0), (4, .iload_n 1, 1, 0), (5, .invokevirtual 15, 3, 0), (8, .iadd, 1, 0), (9, .ireturn, 1, 0)]
def jm_i56 : List jm_IT := [(0, .iload_n 0, 1, 0), (1, .lookupswitch 71 #[(99, 59), (102, 63), (104, 69), (109, 61), (119, 67), (120, 65)], 59, 0), (60, .iconst 4, 1, 4), (61, .ireturn, 1, 0), (62, .iconst 1, 1, 1), (63, .ireturn, 1, 0), (64, .iconst 3, 1, 3), (65, .ireturn, 1, 0), (66, .iconst 3, 1, 3), (67, .ireturn, 1, 0), (68, .iconst 2, 1, 2), (69, .ireturn, 1, 0), (70, .iconst 2, 1, 2), (71, .ireturn, 1, 0), (72, .iconst 0, 1, 0), (73, .ireturn, 1, 0)]
def jm_i57 : List jm_IT := [(0, .iconst 1, 1, 1), (1, .iload_n 0, 1, 0), (2, .invokestatic 9, 3, 0), (5, .iadd, 1, 0), (6, .iconst 1, 1, 1), (7, .iadd, 1, 0), (8, .ireturn, 1, 0)]
def jm_i58 : List jm_IT := [(0, .iconst 0, 1, 0), (1, .istore_n 1, 1, 0), (2, .aload_n 0, 1, 0), (3, .iload_n 1, 1, 0), (4, .invokevirtual 15, 3, 0), (7, .invokestatic 9, 3, 0), (10, .istore_n 2, 1, 0), (11, .iload_n 2, 1, 0), (12, .ifCond .ne 5, 3, 0), (15, .iload_n 1, 1, 0), (16, .ireturn, 1, 0), (17, .iload_n 1, 1, 0), (18, .iconst 1, 1, 1), (19, .iadd, 1, 0), (20, .istore_n 3, 1, 0), (21, .iload_n 3, 1, 0), (22, .iload_n 1, 1, 0), (23, .iload_n 2, 1, 0), (24, .iadd, 1, 0), (25, .if_icmp .gt 31, 3, 0), (28, .aload_n 0, 1, 0), (29, .iload_n 3, 1, 0), (30, .invokevirtual 15, 3, 0), (33, .bipush 48, 2, 48), (35, .if_icmp .lt 13, 3, 0), (38, .aload_n 0, 1, 0), (39, .iload_n 3, 1, 0), (40, .invokevirtual 15, 3, 0), (43, .bipush 57, 2, 57), (45, .if_icmp .le 5, 3, 0), (48, .iload_n 3, 1, 0), (49, .ireturn, 1, 0), (50, .iinc 3 1, 3, 1), (53, .goto (-32), 3, 0), (56, .aload_n 0, 1, 0), (57, .iload_n 1, 1, 0), (58, .iload_n 2, 1, 0), (59, .iadd, 1, 0), (60, .iconst 1, 1, 1), (61, .iadd, 1, 0), (62, .invokevirtual 15, 3, 0), (65, .bipush 59, 2, 59), (67, .if_icmp .eq 9, 3, 0), (70, .iload_n 1, 1, 0), (71, .iload_n 2, 1, 0), (72, .iadd, 1, 0), (73, .iconst 1, 1, 1), (74, .iadd, 1, 0), (75, .ireturn, 1, 0), (76, .iload_n 1, 1, 0), (77, .iload_n 2, 1, 0), (78, .iconst 2, 1, 2), (79, .iadd, 1, 0), (80, .iadd, 1, 0), (81, .istore_n 1, 1, 0), (82, .iload_n 1, 1, 0), (83, .aload_n 0, 1, 0), (84, .getfield 20, 3, 0), (87, .if_icmp .lt (-85), 3, 0), (90, .iconst (-1), 1, (-1)), (91, .ireturn, 1, 0)]
def jm_i59 : List jm_IT := [(0, .aload_n 0, 1, 0), (1, .iload_n 1, 1, 0), (2, .invokevirtual 15, 3, 0), (5, .lookupswitch 92 #[(99, 51), (102, 65), (109, 58), (119, 85), (120, 75)], 51, 0), (56, .aload_n 0, 1, 0), (57, .iload_n 1, 1, 0), (58, .aload_n 2, 1, 0), (59, .invokestatic 24, 3, 0), (62, .ireturn, 1, 0), (63, .aload_n 0, 1, 0), (64, .iload_n 1, 1, 0), (65, .aload_n 2, 1, 0), (66, .invokestatic 28, 3, 0), (69, .ireturn, 1, 0), (70, .aload_n 0, 1, 0), (71, .iload_n 1, 1, 0), (72, .aload_n 2, 1, 0), (73, .getfield 31, 3, 0), (76, .invokestatic 37, 3, 0), (79, .ireturn, 1, 0), (80, .aload_n 0, 1, 0), (81, .iload_n 1, 1, 0), (82, .aload_n 2, 1, 0), (83, .getfield 41, 3, 0), (86, .invokestatic 37, 3, 0), (89, .ireturn, 1, 0), (90, .aload_n 0, 1, 0), (91, .iload_n 1, 1, 0), (92, .aload_n 2, 1, 0), (93, .invokestatic 44, 3, 0), (96, .ireturn, 1, 0), (97, .aload_n 0, 1, 0), (98, .iload_n 1, 1, 0), (99, .aload_n 2, 1, 0), (100, .invokestatic 47, 3, 0), (103, .ireturn, 1, 0)]
def jm_i60 : List jm_IT := [(0, .aload_n 0, 1, 0), (1, .iload_n 1, 1, 0), (2, .iconst 1, 1, 1), (3, .iadd, 1, 0), (4, .iconst 1, 1, 1), (5, .invokestatic 50, 3, 0), (8, .istore_n 3, 1, 0), (9, .aload_n 0, 1, 0), (10, .iload_n 1, 1, 0), (11, .iconst 2, 1, 2), (12, .iadd, 1, 0), (13, .iconst 1, 1, 1), (14, .invokestatic 50, 3, 0), (17, .istore 4, 2, 0), (19, .aload_n 0, 1, 0), (20, .iload_n 1, 1, 0), (21, .iconst 3, 1, 3), (22, .iadd, 1, 0), (23, .iconst 2, 1, 2), (24, .invokestatic 50, 3, 0), (27, .istore 5, 2, 0), (29, .iload_n 3, 1, 0), (30, .invokestatic 54, 3, 0), (33, .ifCond .eq 27, 3, 0), (36, .iload 5, 2, 0), (38, .invokestatic 58, 3, 0), (41, .ifCond .eq 19, 3, 0), (44, .aload_n 2, 1, 0), (45, .iload_n 3, 1, 0), (46, .iload 4, 2, 0), (48, .iload 5, 2, 0), (50, .invokevirtual 61, 3, 0), (53, .ifCond .eq 7, 3, 0), (56, .iconst 1, 1, 1), (57, .goto 4, 3, 0), (60, .iconst 0, 1, 0), (61, .ireturn, 1, 0)]
def jm_i61 : List jm_IT := [(0, .aload_n 0, 1, 0), (1, .iload_n 1, 1, 0), (2, .iconst 1, 1, 1), (3, .iadd, 1, 0), (4, .iconst 1, 1, 1), (5, .invokestatic 50, 3, 0), (8, .istore_n 3, 1, 0), (9, .iload_n 3, 1, 0), (10, .invokestatic 65, 3, 0), (13, .ifCond .eq 15, 3, 0), (16, .aload_n 2, 1, 0), (17, .iload_n 3, 1, 0), (18, .invokevirtual 68, 3, 0), (21, .ifCond .eq 7, 3, 0), (24, .iconst 1, 1, 1), (25, .goto 4, 3, 0), (28, .iconst 0, 1, 0), (29, .ireturn, 1, 0)]
def jm_i62 : List jm_IT := [(0, .aload_n 0, 1, 0), (1, .iload_n 1, 1, 0), (2, .iconst 1, 1, 1), (3, .iadd, 1, 0), (4, .iconst 2, 1, 2), (5, .invokestatic 50, 3, 0), (8, .istore_n 3, 1, 0), (9, .iload_n 3, 1, 0), (10, .invokestatic 58, 3, 0), (13, .ifCond .ne 5, 3, 0), (16, .iconst 0, 1, 0), (17, .ireturn, 1, 0), (18, .aload_n 2, 1, 0), (19, .iload_n 3, 1, 0), (20, .aload_n 0, 1, 0), (21, .iload_n 1, 1, 0), (22, .iconst 3, 1, 3), (23, .iadd, 1, 0), (24, .iconst 1, 1, 1), (25, .invokestatic 50, 3, 0), (28, .iastore, 1, 0), (29, .iconst 1, 1, 1), (30, .ireturn, 1, 0)]
def jm_i63 : List jm_IT := [(0, .aload_n 0, 1, 0), (1, .iload_n 1, 1, 0), (2, .iconst 1, 1, 1), (3, .iadd, 1, 0), (4, .iconst 1, 1, 1), (5, .invokestatic 50, 3, 0), (8, .istore_n 3, 1, 0), (9, .aload_n 0, 1, 0), (10, .iload_n 1, 1, 0), (11, .iconst 2, 1, 2), (12, .iadd, 1, 0), (13, .iconst 1, 1, 1), (14, .invokestatic 50, 3, 0), (17, .istore 4, 2, 0), (19, .aload_n 2, 1, 0), (20, .iload_n 3, 1, 0), (21, .invokevirtual 71, 3, 0), (24, .ifCond .eq 12, 3, 0), (27, .aload_n 2, 1, 0), (28, .iload 4, 2, 0), (30, .invokevirtual 74, 3, 0), (33, .ifCond .ne 5, 3, 0), (36, .iconst 0, 1, 0), (37, .ireturn, 1, 0), (38, .aload_n 2, 1, 0), (39, .iload_n 3, 1, 0), (40, .iload 4, 2, 0), (42, .invokevirtual 77, 3, 0), (45, .iconst 1, 1, 1), (46, .ireturn, 1, 0)]
def jm_i64 : List jm_IT := [(0, .aload_n 0, 1, 0), (1, .iload_n 1, 1, 0), (2, .iconst 1, 1, 1), (3, .iadd, 1, 0), (4, .iconst 2, 1, 2), (5, .invokestatic 50, 3, 0), (8, .istore_n 3, 1, 0), (9, .iload_n 3, 1, 0), (10, .iconst 1, 1, 1), (11, .bipush 60, 2, 60), (13, .invokestatic 81, 3, 0), (16, .ifCond .eq 11, 3, 0), (19, .aload_n 2, 1, 0), (20, .iload_n 3, 1, 0), (21, .invokevirtual 84, 3, 0), (24, .ifCond .ne 5, 3, 0), (27, .iconst 0, 1, 0), (28, .ireturn, 1, 0), (29, .aload_n 2, 1, 0), (30, .iload_n 3, 1, 0), (31, .invokevirtual 87, 3, 0), (34, .iconst 1, 1, 1), (35, .ireturn, 1, 0)]
def jm_i65 : List jm_IT := [(0, .iconst 0, 1, 0), (1, .istore_n 3, 1, 0), (2, .iload_n 1, 1, 0), (3, .istore 4, 2, 0), (5, .iload 4, 2, 0), (7, .iload_n 1, 1, 0), (8, .iload_n 2, 1, 0), (9, .iadd, 1, 0), (10, .if_icmp .ge 24, 3, 0), (13, .bipush 10, 2, 10), (15, .iload_n 3, 1, 0), (16, .imul, 1, 0), (17, .aload_n 0, 1, 0), (18, .iload 4, 2, 0), (20, .invokevirtual 15, 3, 0), (23, .iadd, 1, 0), (24, .bipush 48, 2, 48), (26, .isub, 1, 0), (27, .istore_n 3, 1, 0), (28, .iinc 4 1, 3, 1), (31, .goto (-26), 3, 0), (34, .iload_n 3, 1, 0), (35, .ireturn, 1, 0)]
def jm_i66 : List jm_IT := [(0, .aload_n 1, 1, 0), (1, .iload_n 2, 1, 0), (2, .invokevirtual 7, 3, 0), (5, .ireturn, 1, 0)]
def jm_i67 : List jm_IT := [(0, .aload_n 0, 1, 0), (1, .iload_n 1, 1, 0), (2, .iload_n 2, 1, 0), (3, .invokespecial 13, 3, 0), (6, .iconst 1, 1, 1), (7, .iadd, 1, 0), (8, .ireturn, 1, 0)]
def jm_i68 : List jm_IT := [(0, .iconst 2, 1, 2), (1, .ireturn, 1, 0)]
def jm_i69 : List jm_IT := [(0, .aload_n 0, 1, 0), (1, .iload_n 1, 1, 0), (2, .invokespecial 17, 3, 0), (5, .bipush 100, 2, 100), (7, .iadd, 1, 0), (8, .ireturn, 1, 0)]
def jm_i70 : List jm_IT := [(0, .aload_n 1, 1, 0), (1, .getfield 7, 3, 0), (4, .iload_n 2, 1, 0), (5, .iaload, 1, 0), (6, .ireturn, 1, 0)]
def jm_i71 : List jm_IT := [(0, .iconst 2, 1, 2), (1, .ireturn, 1, 0)]
def jm_i72 : List jm_IT := [(0, .aload_n 0, 1, 0), (1, .iload_n 1, 1, 0), (2, .invokespecial 13, 3, 0), (5, .iconst 5, 1, 5), (6, .iadd, 1, 0), (7, .ireturn, 1, 0)]
def jm_i73 : List jm_IT := [(0, .aload_n 0, 1, 0), (1, .iload_n 1, 1, 0), (2, .invokevirtual 63, 3, 0), (5, .istore_n 2, 1, 0), (6, .iload_n 2, 1, 0), (7, .ifCond .eq 5, 3, 0), (10, .iload_n 2, 1, 0), (11, .ireturn, 1, 0), (12, .aload_n 0, 1, 0), (13, .getfield 11, 3, 0), (16, .iload_n 1, 1, 0), (17, .aaload, 1, 0), (18, .astore_n 3, 1, 0), (19, .aload_n 3, 1, 0), (20, .getfield 67, 3, 0), (23, .ifCond .eq 6, 3, 0), (26, .bipush (-12), 2, (-12)), (28, .ireturn, 1, 0), (29, .aload_n 3, 1, 0), (30, .invokestatic 71, 3, 0), (33, .istore 4, 2, 0), (35, .iload 4, 2, 0), (37, .iconst (-1), 1, (-1)), (38, .if_icmp .eq 10, 3, 0), (41, .sipush (-1000), 3, (-1000)), (44, .iload 4, 2, 0), (46, .isub, 1, 0), (47, .ireturn, 1, 0), (48, .aload_n 0, 1, 0), (49, .aload_n 3, 1, 0), (50, .invokevirtual 77, 3, 0), (53, .ireturn, 1, 0)]
def jm_i74 : List jm_IT := [(0, .aload_n 0, 1, 0), (1, .getfield 56, 3, 0), (4, .aload_n 0, 1, 0), (5, .getfield 52, 3, 0), (8, .invokevirtual 80, 3, 0), (11, .iconst 0, 1, 0), (12, .istore_n 2, 1, 0), (13, .iconst 0, 1, 0), (14, .istore_n 3, 1, 0), (15, .iload_n 3, 1, 0), (16, .aload_n 1, 1, 0), (17, .getfield 84, 3, 0), (20, .if_icmp .ge 38, 3, 0), (23, .aload_n 1, 1, 0), (24, .iload_n 3, 1, 0), (25, .aload_n 0, 1, 0), (26, .getfield 56, 3, 0), (29, .invokestatic 87, 3, 0), (32, .ifCond .ne 9, 3, 0), (35, .sipush (-2000), 3, (-2000)), (38, .iload_n 3, 1, 0), (39, .isub, 1, 0), (40, .ireturn, 1, 0), (41, .iload_n 3, 1, 0), (42, .aload_n 1, 1, 0), (43, .iload_n 3, 1, 0), (44, .invokevirtual 91, 3, 0), (47, .invokestatic 94, 3, 0), (50, .iadd, 1, 0), (51, .istore_n 3, 1, 0), (52, .iinc 2 1, 3, 1), (55, .goto (-40), 3, 0), (58, .aload_n 0, 1, 0), (59, .getfield 52, 3, 0), (62, .aload_n 0, 1, 0), (63, .getfield 56, 3, 0), (66, .invokevirtual 80, 3, 0), (69, .iload_n 2, 1, 0), (70, .ireturn, 1, 0)]
def jm_i75 : List jm_IT := [(0, .aload_n 0, 1, 0), (1, .getfield 52, 3, 0), (4, .iload_n 1, 1, 0), (5, .invokevirtual 97, 3, 0), (8, .ifCond .ne 5, 3, 0), (11, .iconst (-1), 1, (-1)), (12, .ireturn, 1, 0), (13, .iload_n 2, 1, 0), (14, .tableswitch 138 0 7 #[46, 56, 66, 76, 86, 96, 105, 121], 46, 0), (60, .aload_n 0, 1, 0), (61, .getfield 52, 3, 0), (64, .getfield 101, 3, 0), (67, .iload_n 1, 1, 0), (68, .iaload, 1, 0), (69, .ireturn, 1, 0), (70, .aload_n 0, 1, 0), (71, .getfield 52, 3, 0), (74, .getfield 104, 3, 0), (77, .iload_n 1, 1, 0), (78, .iaload, 1, 0), (79, .ireturn, 1, 0), (80, .aload_n 0, 1, 0), (81, .getfield 52, 3, 0), (84, .getfield 107, 3, 0), (87, .iload_n 1, 1, 0), (88, .iaload, 1, 0), (89, .ireturn, 1, 0), (90, .aload_n 0, 1, 0), (91, .getfield 52, 3, 0), (94, .getfield 110, 3, 0), (97, .iload_n 1, 1, 0), (98, .iaload, 1, 0), (99, .ireturn, 1, 0), (100, .aload_n 0, 1, 0), (101, .getfield 52, 3, 0), (104, .getfield 113, 3, 0), (107, .iload_n 1, 1, 0), (108, .iaload, 1, 0), (109, .ireturn, 1, 0), (110, .aload_n 0, 1, 0), (111, .getfield 52, 3, 0), (114, .iload_n 1, 1, 0), (115, .invokevirtual 116, 3, 0), (118, .ireturn, 1, 0), (119, .aload_n 0, 1, 0), (120, .getfield 52, 3, 0), (123, .iload_n 1, 1, 0), (124, .aload_n 0, 1, 0), (125, .getfield 52, 3, 0), (128, .getfield 119, 3, 0), (131, .invokevirtual 122, 3, 0), (134, .ireturn, 1, 0), (135, .aload_n 0, 1, 0), (136, .getfield 52, 3, 0), (139, .iload_n 1, 1, 0), (140, .invokevirtual 126, 3, 0), (143, .ifCond .eq 7, 3, 0), (146, .iconst 1, 1, 1), (147, .goto 4, 3, 0), (150, .iconst 0, 1, 0), (151, .ireturn, 1, 0), (152, .iconst (-1), 1, (-1)), (153, .ireturn, 1, 0)]
def jm_i76 : List jm_IT := [(0, .aload_n 0, 1, 0), (1, .getfield 52, 3, 0), (4, .iload_n 1, 1, 0), (5, .invokevirtual 129, 3, 0), (8, .ifCond .ne 5, 3, 0), (11, .iconst (-1), 1, (-1)), (12, .ireturn, 1, 0), (13, .iload_n 2, 1, 0), (14, .lookupswitch 53 #[(0, 26), (1, 36)], 26, 0), (40, .aload_n 0, 1, 0), (41, .getfield 52, 3, 0), (44, .getfield 132, 3, 0), (47, .iload_n 1, 1, 0), (48, .iaload, 1, 0), (49, .ireturn, 1, 0), (50, .aload_n 0, 1, 0), (51, .getfield 52, 3, 0), (54, .iload_n 1, 1, 0), (55, .invokevirtual 135, 3, 0), (58, .ifCond .eq 7, 3, 0), (61, .iconst 1, 1, 1), (62, .goto 4, 3, 0), (65, .iconst 0, 1, 0), (66, .ireturn, 1, 0), (67, .iconst (-1), 1, (-1)), (68, .ireturn, 1, 0)]
def jm_i77 : List jm_IT := [(0, .iload_n 1, 1, 0), (1, .invokestatic 138, 3, 0), (4, .ifCond .ne 5, 3, 0), (7, .iconst (-1), 1, (-1)), (8, .ireturn, 1, 0), (9, .iload_n 2, 1, 0), (10, .tableswitch 55 0 2 #[26, 36, 46], 26, 0), (36, .aload_n 0, 1, 0), (37, .getfield 52, 3, 0), (40, .getfield 141, 3, 0), (43, .iload_n 1, 1, 0), (44, .iaload, 1, 0), (45, .ireturn, 1, 0), (46, .aload_n 0, 1, 0), (47, .getfield 52, 3, 0), (50, .getfield 144, 3, 0), (53, .iload_n 1, 1, 0), (54, .iaload, 1, 0), (55, .ireturn, 1, 0), (56, .aload_n 0, 1, 0), (57, .getfield 52, 3, 0), (60, .iload_n 1, 1, 0), (61, .invokevirtual 147, 3, 0), (64, .ireturn, 1, 0), (65, .iconst (-1), 1, (-1)), (66, .ireturn, 1, 0)]
def jm_i78 : List jm_IT := [(0, .iload_n 1, 1, 0), (1, .invokestatic 150, 3, 0), (4, .ifCond .eq 10, 3, 0), (7, .iload_n 2, 1, 0), (8, .invokestatic 138, 3, 0), (11, .ifCond .ne 5, 3, 0), (14, .iconst (-1), 1, (-1)), (15, .ireturn, 1, 0), (16, .aload_n 0, 1, 0), (17, .iload_n 1, 1, 0), (18, .invokevirtual 153, 3, 0), (21, .istore_n 3, 1, 0), (22, .iload_n 3, 1, 0), (23, .ifCond .eq 5, 3, 0), (26, .iload_n 3, 1, 0), (27, .ireturn, 1, 0), (28, .aload_n 0, 1, 0), (29, .getfield 52, 3, 0), (32, .aload_n 0, 1, 0), (33, .getfield 11, 3, 0), (36, .iload_n 1, 1, 0), (37, .aaload, 1, 0), (38, .getfield 156, 3, 0), (41, .aload_n 0, 1, 0), (42, .getfield 11, 3, 0), (45, .iload_n 1, 1, 0), (46, .aaload, 1, 0), (47, .getfield 158, 3, 0), (50, .iload_n 2, 1, 0), (51, .invokevirtual 160, 3, 0), (54, .ifCond .eq 15, 3, 0), (57, .aload_n 0, 1, 0), (58, .getfield 52, 3, 0), (61, .getfield 164, 3, 0), (64, .iconst 1, 1, 1), (65, .isub, 1, 0), (66, .goto 5, 3, 0), (69, .bipush (-2), 2, (-2)), (71, .ireturn, 1, 0)]
def jm_i79 : List jm_IT := [(0, .iload_n 1, 1, 0), (1, .invokestatic 167, 3, 0), (4, .ifCond .ne 5, 3, 0), (7, .iconst (-1), 1, (-1)), (8, .ireturn, 1, 0), (9, .aload_n 0, 1, 0), (10, .getfield 52, 3, 0), (13, .iload_n 1, 1, 0), (14, .invokevirtual 170, 3, 0), (17, .ifCond .eq 15, 3, 0), (20, .aload_n 0, 1, 0), (21, .getfield 52, 3, 0), (24, .getfield 173, 3, 0), (27, .iconst 1, 1, 1), (28, .isub, 1, 0), (29, .goto 5, 3, 0), (32, .bipush (-2), 2, (-2)), (34, .ireturn, 1, 0)]
def jm_i80 : List jm_IT := [(0, .aload_n 0, 1, 0), (1, .getfield 52, 3, 0), (4, .iload_n 1, 1, 0), (5, .invokevirtual 97, 3, 0), (8, .ifCond .eq 14, 3, 0), (11, .aload_n 0, 1, 0), (12, .getfield 52, 3, 0), (15, .iload_n 2, 1, 0), (16, .invokevirtual 176, 3, 0), (19, .ifCond .ne 5, 3, 0), (22, .iconst (-1), 1, (-1)), (23, .ireturn, 1, 0), (24, .aload_n 0, 1, 0), (25, .getfield 52, 3, 0), (28, .getfield 113, 3, 0), (31, .iload_n 1, 1, 0), (32, .iaload, 1, 0), (33, .istore_n 3, 1, 0), (34, .aload_n 0, 1, 0), (35, .getfield 52, 3, 0), (38, .iload_n 1, 1, 0), (39, .iload_n 2, 1, 0), (40, .invokevirtual 179, 3, 0), (43, .iload_n 3, 1, 0), (44, .ireturn, 1, 0)]
def jm_i81 : List jm_IT := [(0, .iload_n 1, 1, 0), (1, .invokestatic 138, 3, 0), (4, .ifCond .eq 22, 3, 0), (7, .iload_n 2, 1, 0), (8, .iconst 0, 1, 0), (9, .iconst 1, 1, 1), (10, .invokestatic 183, 3, 0), (13, .ifCond .eq 13, 3, 0), (16, .iload_n 3, 1, 0), (17, .iconst 0, 1, 0), (18, .bipush 9, 2, 9), (20, .invokestatic 183, 3, 0), (23, .ifCond .ne 5, 3, 0), (26, .iconst (-1), 1, (-1)), (27, .ireturn, 1, 0), (28, .iload_n 2, 1, 0), (29, .ifCond .ne 13, 3, 0), (32, .aload_n 0, 1, 0), (33, .getfield 52, 3, 0), (36, .getfield 141, 3, 0), (39, .goto 10, 3, 0), (42, .aload_n 0, 1, 0), (43, .getfield 52, 3, 0), (46, .getfield 144, 3, 0), (49, .astore 4, 2, 0), (51, .aload 4, 2, 0), (53, .iload_n 1, 1, 0), (54, .iaload, 1, 0), (55, .istore 5, 2, 0), (57, .aload 4, 2, 0), (59, .iload_n 1, 1, 0), (60, .iload_n 3, 1, 0), (61, .iastore, 1, 0), (62, .iload 5, 2, 0), (64, .ireturn, 1, 0)]
def jm_i82 : List jm_IT := [(0, .aload_n 0, 1, 0), (1, .getfield 52, 3, 0), (4, .iload_n 1, 1, 0), (5, .invokevirtual 97, 3, 0), (8, .ifCond .eq 10, 3, 0), (11, .iload_n 2, 1, 0), (12, .invokestatic 138, 3, 0), (15, .ifCond .ne 5, 3, 0), (18, .iconst (-1), 1, (-1)), (19, .ireturn, 1, 0), (20, .aload_n 0, 1, 0), (21, .getfield 52, 3, 0), (24, .getfield 107, 3, 0), (27, .iload_n 1, 1, 0), (28, .iaload, 1, 0), (29, .istore_n 3, 1, 0), (30, .aload_n 0, 1, 0), (31, .getfield 52, 3, 0), (34, .getfield 107, 3, 0), (37, .iload_n 1, 1, 0), (38, .iload_n 2, 1, 0), (39, .iastore, 1, 0), (40, .iload_n 3, 1, 0), (41, .ireturn, 1, 0)]
def jm_i83 : List jm_IT := [(0, .iload_n 1, 1, 0), (1, .iconst 1, 1, 1), (2, .bipush 60, 2, 60), (4, .invokestatic 183, 3, 0), (7, .ifCond .ne 5, 3, 0), (10, .iconst (-1), 1, (-1)), (11, .ireturn, 1, 0), (12, .aload_n 0, 1, 0), (13, .getfield 52, 3, 0), (16, .iload_n 1, 1, 0), (17, .invokevirtual 186, 3, 0), (20, .ifCond .ne 6, 3, 0), (23, .bipush (-3), 2, (-3)), (25, .ireturn, 1, 0), (26, .aload_n 0, 1, 0), (27, .getfield 52, 3, 0), (30, .iload_n 1, 1, 0), (31, .invokevirtual 189, 3, 0), (34, .aload_n 0, 1, 0), (35, .getfield 52, 3, 0), (38, .getfield 193, 3, 0), (41, .invokestatic 196, 3, 0), (44, .ireturn, 1, 0)]
def jm_i84 : List jm_IT := [(0, .aload_n 0, 1, 0), (1, .getfield 52, 3, 0), (4, .iload_n 1, 1, 0), (5, .invokevirtual 97, 3, 0), (8, .ifCond .eq 19, 3, 0), (11, .iload_n 2, 1, 0), (12, .invokestatic 201, 3, 0), (15, .ifCond .eq 12, 3, 0), (18, .iload_n 3, 1, 0), (19, .iconst 0, 1, 0), (20, .iconst 1, 1, 1), (21, .invokestatic 183, 3, 0), (24, .ifCond .ne 5, 3, 0), (27, .iconst (-1), 1, (-1)), (28, .ireturn, 1, 0), (29, .aload_n 0, 1, 0), (30, .iload_n 2, 1, 0), (31, .invokevirtual 204, 3, 0), (34, .iload_n 3, 1, 0), (35, .ifCond .ne 15, 3, 0), (38, .aload_n 0, 1, 0), (39, .getfield 56, 3, 0), (42, .getfield 107, 3, 0), (45, .iload_n 1, 1, 0), (46, .iaload, 1, 0), (47, .goto 12, 3, 0), (50, .aload_n 0, 1, 0), (51, .getfield 56, 3, 0), (54, .getfield 110, 3, 0), (57, .iload_n 1, 1, 0), (58, .iaload, 1, 0), (59, .ireturn, 1, 0)]
def jm_i85 : List jm_IT := [(0, .iload_n 1, 1, 0), (1, .invokestatic 201, 3, 0), (4, .ifCond .eq 12, 3, 0), (7, .iload_n 2, 1, 0), (8, .iconst 0, 1, 0), (9, .iconst 1, 1, 1), (10, .invokestatic 183, 3, 0), (13, .ifCond .ne 5, 3, 0), (16, .iconst (-1), 1, (-1)), (17, .ireturn, 1, 0), (18, .aload_n 0, 1, 0), (19, .iload_n 1, 1, 0), (20, .invokevirtual 204, 3, 0), (23, .iload_n 2, 1, 0), (24, .ifCond .ne 13, 3, 0), (27, .aload_n 0, 1, 0), (28, .getfield 56, 3, 0), (31, .getfield 193, 3, 0), (34, .goto 10, 3, 0), (37, .aload_n 0, 1, 0), (38, .getfield 56, 3, 0), (41, .invokevirtual 207, 3, 0), (44, .ireturn, 1, 0)]
def jm_i86 : List jm_IT := [(0, .aload_n 0, 1, 0), (1, .getfield 52, 3, 0), (4, .iload_n 1, 1, 0), (5, .invokevirtual 97, 3, 0), (8, .ifCond .ne 5, 3, 0), (11, .iconst (-1), 1, (-1)), (12, .ireturn, 1, 0), (13, .aload_n 0, 1, 0), (14, .getfield 56, 3, 0), (17, .aload_n 0, 1, 0), (18, .getfield 52, 3, 0), (21, .invokevirtual 80, 3, 0), (24, .iconst 1, 1, 1), (25, .istore_n 2, 1, 0), (26, .iload_n 2, 1, 0), (27, .bipush 99, 2, 99), (29, .if_icmp .gt 29, 3, 0), (32, .aload_n 0, 1, 0), (33, .getfield 56, 3, 0), (36, .invokevirtual 211, 3, 0), (39, .aload_n 0, 1, 0), (40, .getfield 56, 3, 0), (43, .iload_n 1, 1, 0), (44, .invokevirtual 214, 3, 0), (47, .ifCond .eq 5, 3, 0), (50, .iload_n 2, 1, 0), (51, .ireturn, 1, 0), (52, .iinc 2 1, 3, 1), (55, .goto (-29), 3, 0), (58, .bipush (-4), 2, (-4)), (60, .ireturn, 1, 0)]
def jm_i87 : List jm_IT := [(0, .aload_n 0, 1, 0), (1, .getfield 52, 3, 0), (4, .iload_n 1, 1, 0), (5, .invokevirtual 97, 3, 0), (8, .ifCond .eq 10, 3, 0), (11, .iload_n 2, 1, 0), (12, .invokestatic 201, 3, 0), (15, .ifCond .ne 5, 3, 0), (18, .iconst (-1), 1, (-1)), (19, .ireturn, 1, 0), (20, .aload_n 0, 1, 0), (21, .getfield 56, 3, 0), (24, .aload_n 0, 1, 0), (25, .getfield 52, 3, 0), (28, .invokevirtual 80, 3, 0), (31, .iconst 0, 1, 0), (32, .istore_n 3, 1, 0), (33, .iconst 1, 1, 1), (34, .istore 4, 2, 0), (36, .iload 4, 2, 0), (38, .iload_n 2, 1, 0), (39, .if_icmp .gt 30, 3, 0), (42, .aload_n 0, 1, 0), (43, .getfield 56, 3, 0), (46, .invokevirtual 211, 3, 0), (49, .aload_n 0, 1, 0), (50, .getfield 56, 3, 0), (53, .iload_n 1, 1, 0), (54, .invokevirtual 214, 3, 0), (57, .ifCond .eq 6, 3, 0), (60, .iinc 3 1, 3, 1), (63, .iinc 4 1, 3, 1), (66, .goto (-30), 3, 0), (69, .iload_n 3, 1, 0), (70, .ireturn, 1, 0)]
def jm_i88 : List jm_IT := [(0, .aload_n 0, 1, 0), (1, .getfield 52, 3, 0), (4, .iload_n 1, 1, 0), (5, .invokevirtual 129, 3, 0), (8, .ifCond .ne 5, 3, 0), (11, .iconst (-1), 1, (-1)), (12, .ireturn, 1, 0), (13, .aload_n 0, 1, 0), (14, .getfield 56, 3, 0), (17, .aload_n 0, 1, 0), (18, .getfield 52, 3, 0), (21, .invokevirtual 80, 3, 0), (24, .aload_n 0, 1, 0), (25, .iload_n 1, 1, 0), (26, .invokevirtual 217, 3, 0), (29, .ireturn, 1, 0)]
def jm_i89 : List jm_IT := [(0, .iconst 0, 1, 0), (1, .istore_n 2, 1, 0), (2, .iload_n 2, 1, 0), (3, .bipush 99, 2, 99), (5, .if_icmp .gt 29, 3, 0), (8, .aload_n 0, 1, 0), (9, .getfield 56, 3, 0), (12, .iload_n 1, 1, 0), (13, .invokevirtual 135, 3, 0), (16, .ifCond .eq 5, 3, 0), (19, .iload_n 2, 1, 0), (20, .ireturn, 1, 0), (21, .aload_n 0, 1, 0), (22, .getfield 56, 3, 0), (25, .invokevirtual 211, 3, 0), (28, .iinc 2 1, 3, 1), (31, .goto (-29), 3, 0), (34, .bipush (-4), 2, (-4)), (36, .ireturn, 1, 0)]
def jm_i90 : List jm_IT := [(0, .aload_n 0, 1, 0), (1, .getfield 56, 3, 0), (4, .aload_n 0, 1, 0), (5, .getfield 52, 3, 0), (8, .invokevirtual 80, 3, 0), (11, .iconst 1, 1, 1), (12, .istore_n 1, 1, 0), (13, .iload_n 1, 1, 0), (14, .bipush 99, 2, 99), (16, .if_icmp .gt 59, 3, 0), (19, .aload_n 0, 1, 0), (20, .getfield 56, 3, 0), (23, .invokevirtual 211, 3, 0), (26, .iconst 0, 1, 0), (27, .istore_n 2, 1, 0), (28, .iload_n 2, 1, 0), (29, .aload_n 0, 1, 0), (30, .getfield 52, 3, 0), (33, .getfield 173, 3, 0), (36, .if_icmp .ge 33, 3, 0), (39, .aload_n 0, 1, 0), (40, .getfield 56, 3, 0), (43, .iload_n 2, 1, 0), (44, .invokevirtual 135, 3, 0), (47, .ifCond .eq 16, 3, 0), (50, .aload_n 0, 1, 0), (51, .getfield 52, 3, 0), (54, .iload_n 2, 1, 0), (55, .invokevirtual 135, 3, 0), (58, .ifCond .ne 5, 3, 0), (61, .iload_n 2, 1, 0), (62, .ireturn, 1, 0), (63, .iinc 2 1, 3, 1), (66, .goto (-38), 3, 0), (69, .iinc 1 1, 3, 1), (72, .goto (-59), 3, 0), (75, .bipush (-4), 2, (-4)), (77, .ireturn, 1, 0)]
def jm_i91 : List jm_IT := [(0, .aload_n 0, 1, 0), (1, .getfield 52, 3, 0), (4, .iload_n 1, 1, 0), (5, .invokevirtual 129, 3, 0), (8, .ifCond .eq 12, 3, 0), (11, .iload_n 2, 1, 0), (12, .iconst 0, 1, 0), (13, .iconst 1, 1, 1), (14, .invokestatic 183, 3, 0), (17, .ifCond .ne 5, 3, 0), (20, .iconst (-1), 1, (-1)), (21, .ireturn, 1, 0), (22, .aload_n 0, 1, 0), (23, .getfield 52, 3, 0), (26, .iload_n 1, 1, 0), (27, .invokevirtual 135, 3, 0), (30, .ifCond .eq 6, 3, 0), (33, .bipush (-3), 2, (-3)), (35, .ireturn, 1, 0), (36, .bipush (-4), 2, (-4)), (38, .istore_n 3, 1, 0), (39, .bipush (-4), 2, (-4)), (41, .istore 4, 2, 0), (43, .iconst 0, 1, 0), (44, .istore 5, 2, 0), (46, .iload 5, 2, 0), (48, .aload_n 0, 1, 0), (49, .getfield 52, 3, 0), (52, .getfield 164, 3, 0), (55, .if_icmp .ge 45, 3, 0), (58, .aload_n 0, 1, 0), (59, .iload_n 1, 1, 0), (60, .iload 5, 2, 0), (62, .invokevirtual 220, 3, 0), (65, .istore 6, 2, 0), (67, .iload 6, 2, 0), (69, .bipush (-4), 2, (-4)), (71, .if_icmp .eq 23, 3, 0), (74, .iload_n 3, 1, 0), (75, .bipush (-4), 2, (-4)), (77, .if_icmp .eq 10, 3, 0), (80, .iload 6, 2, 0), (82, .iload 4, 2, 0), (84, .if_icmp .ge 10, 3, 0), (87, .iload 5, 2, 0), (89, .istore_n 3, 1, 0), (90, .iload 6, 2, 0), (92, .istore 4, 2, 0), (94, .iinc 5 1, 3, 1), (97, .goto (-51), 3, 0), (100, .iload_n 2, 1, 0), (101, .ifCond .ne 7, 3, 0), (104, .iload_n 3, 1, 0), (105, .goto 5, 3, 0), (108, .iload 4, 2, 0), (110, .ireturn, 1, 0)]
def jm_i92 : List jm_IT := [(0, .aload_n 0, 1, 0), (1, .getfield 56, 3, 0), (4, .aload_n 0, 1, 0), (5, .getfield 52, 3, 0), (8, .invokevirtual 80, 3, 0), (11, .aload_n 0, 1, 0), (12, .getfield 56, 3, 0), (15, .iload_n 2, 1, 0), (16, .iload_n 1, 1, 0), (17, .invokevirtual 179, 3, 0), (20, .aload_n 0, 1, 0), (21, .iload_n 1, 1, 0), (22, .invokevirtual 217, 3, 0), (25, .ireturn, 1, 0)]
def jm_i93 : List jm_IT := [(0, .aload_n 0, 1, 0), (1, .getfield 52, 3, 0), (4, .iload_n 1, 1, 0), (5, .invokevirtual 97, 3, 0), (8, .ifCond .ne 5, 3, 0), (11, .iconst (-1), 1, (-1)), (12, .ireturn, 1, 0), (13, .aload_n 0, 1, 0), (14, .getfield 52, 3, 0), (17, .iload_n 1, 1, 0), (18, .invokevirtual 126, 3, 0), (21, .ifCond .ne 5, 3, 0), (24, .iconst 0, 1, 0), (25, .ireturn, 1, 0), (26, .aload_n 0, 1, 0), (27, .getfield 56, 3, 0), (30, .aload_n 0, 1, 0), (31, .getfield 52, 3, 0), (34, .invokevirtual 80, 3, 0), (37, .iconst 1, 1, 1), (38, .istore_n 2, 1, 0), (39, .iload_n 2, 1, 0), (40, .bipush 99, 2, 99), (42, .if_icmp .ge 30, 3, 0), (45, .aload_n 0, 1, 0), (46, .getfield 56, 3, 0), (49, .iload_n 1, 1, 0), (50, .invokevirtual 223, 3, 0), (53, .aload_n 0, 1, 0), (54, .getfield 56, 3, 0), (57, .iload_n 1, 1, 0), (58, .invokevirtual 126, 3, 0), (61, .ifCond .ne 5, 3, 0), (64, .iload_n 2, 1, 0), (65, .ireturn, 1, 0), (66, .iinc 2 1, 3, 1), (69, .goto (-30), 3, 0), (72, .bipush 99, 2, 99), (74, .ireturn, 1, 0)]
def jm_i94 : List jm_IT := [(0, .aload_n 0, 1, 0), (1, .getfield 52, 3, 0), (4, .iload_n 1, 1, 0), (5, .invokevirtual 97, 3, 0), (8, .ifCond .eq 30, 3, 0), (11, .iload_n 2, 1, 0), (12, .invokestatic 138, 3, 0), (15, .ifCond .eq 23, 3, 0), (18, .iload_n 3, 1, 0), (19, .iconst 1, 1, 1), (20, .bipush 9, 2, 9), (22, .invokestatic 183, 3, 0), (25, .ifCond .eq 13, 3, 0), (28, .iload 4, 2, 0), (30, .iconst 0, 1, 0), (31, .iconst 1, 1, 1), (32, .invokestatic 183, 3, 0), (35, .ifCond .ne 5, 3, 0), (38, .iconst (-1), 1, (-1)), (39, .ireturn, 1, 0), (40, .bipush (-4), 2, (-4)), (42, .istore 5, 2, 0), (44, .bipush (-4), 2, (-4)), (46, .istore 6, 2, 0), (48, .iconst 0, 1, 0), (49, .istore 7, 2, 0), (51, .iload 7, 2, 0), (53, .bipush 16, 2, 16), (55, .if_icmp .ge 67, 3, 0), (58, .aload_n 0, 1, 0), (59, .getfield 56, 3, 0), (62, .aload_n 0, 1, 0), (63, .getfield 52, 3, 0), (66, .invokevirtual 80, 3, 0), (69, .aload_n 0, 1, 0), (70, .getfield 56, 3, 0), (73, .iload 7, 2, 0), (75, .iload_n 3, 1, 0), (76, .invokevirtual 226, 3, 0), (79, .aload_n 0, 1, 0), (80, .iload_n 1, 1, 0), (81, .iload_n 2, 1, 0), (82, .invokevirtual 229, 3, 0), (85, .istore 8, 2, 0), (87, .iload 8, 2, 0), (89, .bipush (-4), 2, (-4)), (91, .if_icmp .eq 25, 3, 0), (94, .iload 5, 2, 0), (96, .bipush (-4), 2, (-4)), (98, .if_icmp .eq 10, 3, 0), (101, .iload 8, 2, 0), (103, .iload 6, 2, 0), (105, .if_icmp .ge 11, 3, 0), (108, .iload 7, 2, 0), (110, .istore 5, 2, 0), (112, .iload 8, 2, 0), (114, .istore 6, 2, 0), (116, .iinc 7 1, 3, 1), (119, .goto (-68), 3, 0), (122, .iload 4, 2, 0), (124, .ifCond .ne 8, 3, 0), (127, .iload 5, 2, 0), (129, .goto 5, 3, 0), (132, .iload 6, 2, 0), (134, .ireturn, 1, 0)]
def jm_i95 : List jm_IT := [(0, .iconst 0, 1, 0), (1, .istore_n 3, 1, 0), (2, .iload_n 3, 1, 0), (3, .bipush 99, 2, 99), (5, .if_icmp .gt 31, 3, 0), (8, .aload_n 0, 1, 0), (9, .getfield 56, 3, 0), (12, .getfield 107, 3, 0), (15, .iload_n 1, 1, 0), (16, .iaload, 1, 0), (17, .iload_n 2, 1, 0), (18, .if_icmp .ne 5, 3, 0), (21, .iload_n 3, 1, 0), (22, .ireturn, 1, 0), (23, .aload_n 0, 1, 0), (24, .getfield 56, 3, 0), (27, .invokevirtual 211, 3, 0), (30, .iinc 3 1, 3, 1), (33, .goto (-31), 3, 0), (36, .bipush (-4), 2, (-4)), (38, .ireturn, 1, 0)]
def jm_i96 : List jm_IT := [(0, .iload_n 1, 1, 0), (1, .invokestatic 201, 3, 0), (4, .ifCond .eq 12, 3, 0), (7, .iload_n 2, 1, 0), (8, .iconst 0, 1, 0), (9, .iconst 2, 1, 2), (10, .invokestatic 183, 3, 0), (13, .ifCond .ne 5, 3, 0), (16, .iconst (-1), 1, (-1)), (17, .ireturn, 1, 0), (18, .aload_n 0, 1, 0), (19, .getfield 56, 3, 0), (22, .aload_n 0, 1, 0), (23, .getfield 52, 3, 0), (26, .invokevirtual 80, 3, 0), (29, .iconst 0, 1, 0), (30, .istore_n 3, 1, 0), (31, .bipush (-4), 2, (-4)), (33, .istore 4, 2, 0), (35, .iconst 1, 1, 1), (36, .istore 5, 2, 0), (38, .iload 5, 2, 0), (40, .iload_n 1, 1, 0), (41, .if_icmp .gt 45, 3, 0), (44, .aload_n 0, 1, 0), (45, .getfield 56, 3, 0), (48, .invokevirtual 211, 3, 0), (51, .aload_n 0, 1, 0), (52, .getfield 56, 3, 0), (55, .getfield 232, 3, 0), (58, .invokestatic 196, 3, 0), (61, .iload_n 3, 1, 0), (62, .invokestatic 196, 3, 0), (65, .if_icmp .le 15, 3, 0), (68, .aload_n 0, 1, 0), (69, .getfield 56, 3, 0), (72, .getfield 232, 3, 0), (75, .istore_n 3, 1, 0), (76, .iload 5, 2, 0), (78, .istore 4, 2, 0), (80, .iinc 5 1, 3, 1), (83, .goto (-45), 3, 0), (86, .iload_n 2, 1, 0), (87, .lookupswitch 32 #[(0, 25), (1, 27)], 25, 0), (112, .iload_n 3, 1, 0), (113, .ireturn, 1, 0), (114, .iload_n 3, 1, 0), (115, .invokestatic 196, 3, 0), (118, .ireturn, 1, 0), (119, .iload 4, 2, 0), (121, .ireturn, 1, 0)]
def jm_i97 : List jm_IT := [(0, .iconst 0, 1, 0), (1, .istore_n 1, 1, 0), (2, .iconst 0, 1, 0), (3, .istore_n 2, 1, 0), (4, .iload_n 2, 1, 0), (5, .aload_n 0, 1, 0), (6, .getfield 52, 3, 0), (9, .getfield 173, 3, 0), (12, .if_icmp .ge 31, 3, 0), (15, .aload_n 0, 1, 0), (16, .getfield 52, 3, 0), (19, .iload_n 2, 1, 0), (20, .invokevirtual 135, 3, 0), (23, .ifCond .ne 14, 3, 0), (26, .aload_n 0, 1, 0), (27, .iload_n 2, 1, 0), (28, .invokevirtual 235, 3, 0), (31, .ifCond .eq 6, 3, 0), (34, .iinc 1 1, 3, 1), (37, .iinc 2 1, 3, 1), (40, .goto (-36), 3, 0), (43, .iload_n 1, 1, 0), (44, .ireturn, 1, 0)]
def jm_i98 : List jm_IT := [(0, .iconst 0, 1, 0), (1, .istore_n 2, 1, 0), (2, .iload_n 2, 1, 0), (3, .aload_n 0, 1, 0), (4, .getfield 52, 3, 0), (7, .getfield 164, 3, 0), (10, .if_icmp .ge 22, 3, 0), (13, .aload_n 0, 1, 0), (14, .iload_n 1, 1, 0), (15, .iload_n 2, 1, 0), (16, .invokevirtual 220, 3, 0), (19, .bipush (-4), 2, (-4)), (21, .if_icmp .eq 5, 3, 0), (24, .iconst 1, 1, 1), (25, .ireturn, 1, 0), (26, .iinc 2 1, 3, 1), (29, .goto (-27), 3, 0), (32, .iconst 0, 1, 0), (33, .ireturn, 1, 0)]
def jm_i99 : List jm_IT := [(0, .iload_n 1, 1, 0), (1, .invokestatic 201, 3, 0), (4, .ifCond .ne 5, 3, 0), (7, .iconst (-1), 1, (-1)), (8, .ireturn, 1, 0), (9, .aload_n 0, 1, 0), (10, .getfield 56, 3, 0), (13, .aload_n 0, 1, 0), (14, .getfield 52, 3, 0), (17, .invokevirtual 80, 3, 0), (20, .aload_n 0, 1, 0), (21, .getfield 56, 3, 0), (24, .invokevirtual 238, 3, 0), (27, .istore_n 2, 1, 0), (28, .iconst 1, 1, 1), (29, .istore_n 3, 1, 0), (30, .iload_n 3, 1, 0), (31, .iload_n 1, 1, 0), (32, .if_icmp .gt 26, 3, 0), (35, .aload_n 0, 1, 0), (36, .getfield 56, 3, 0), (39, .invokevirtual 211, 3, 0), (42, .iload_n 2, 1, 0), (43, .aload_n 0, 1, 0), (44, .getfield 56, 3, 0), (47, .invokevirtual 238, 3, 0), (50, .ior, 1, 0), (51, .istore_n 2, 1, 0), (52, .iinc 3 1, 3, 1), (55, .goto (-25), 3, 0), (58, .iload_n 2, 1, 0), (59, .iconst (-1), 1, (-1)), (60, .ixor, 1, 0), (61, .ldc 241, 2, 65535), (63, .iand, 1, 0), (64, .ireturn, 1, 0)]
def jm_i100 : List jm_IT := [(0, .aload_n 0, 1, 0), (1, .getfield 52, 3, 0), (4, .iload_n 1, 1, 0), (5, .invokevirtual 97, 3, 0), (8, .ifCond .eq 19, 3, 0), (11, .aload_n 0, 1, 0), (12, .getfield 52, 3, 0), (15, .iload_n 2, 1, 0), (16, .invokevirtual 97, 3, 0), (19, .ifCond .eq 8, 3, 0), (22, .iload_n 1, 1, 0), (23, .iload_n 2, 1, 0), (24, .if_icmp .ne 5, 3, 0), (27, .iconst (-1), 1, (-1)), (28, .ireturn, 1, 0), (29, .aload_n 0, 1, 0), (30, .getfield 56, 3, 0), (33, .aload_n 0, 1, 0), (34, .getfield 52, 3, 0), (37, .invokevirtual 80, 3, 0), (40, .iconst 0, 1, 0), (41, .istore_n 3, 1, 0), (42, .iload_n 3, 1, 0), (43, .bipush 99, 2, 99), (45, .if_icmp .gt 39, 3, 0), (48, .aload_n 0, 1, 0), (49, .getfield 56, 3, 0), (52, .getfield 107, 3, 0), (55, .iload_n 1, 1, 0), (56, .iaload, 1, 0), (57, .aload_n 0, 1, 0), (58, .getfield 56, 3, 0), (61, .getfield 107, 3, 0), (64, .iload_n 2, 1, 0), (65, .iaload, 1, 0), (66, .if_icmp .ne 5, 3, 0), (69, .iload_n 3, 1, 0), (70, .ireturn, 1, 0), (71, .aload_n 0, 1, 0), (72, .getfield 56, 3, 0), (75, .invokevirtual 211, 3, 0), (78, .iinc 3 1, 3, 1), (81, .goto (-39), 3, 0), (84, .bipush (-4), 2, (-4)), (86, .ireturn, 1, 0)]
def jm_i101 : List jm_IT := [(0, .iload_n 1, 1, 0), (1, .invokestatic 201, 3, 0), (4, .ifCond .ne 5, 3, 0), (7, .iconst (-1), 1, (-1)), (8, .ireturn, 1, 0), (9, .aload_n 0, 1, 0), (10, .iload_n 1, 1, 0), (11, .invokevirtual 204, 3, 0), (14, .aload_n 0, 1, 0), (15, .getfield 56, 3, 0), (18, .getfield 193, 3, 0), (21, .invokestatic 196, 3, 0), (24, .istore_n 2, 1, 0), (25, .bipush (-4), 2, (-4)), (27, .istore_n 3, 1, 0), (28, .iconst 0, 1, 0), (29, .istore 4, 2, 0), (31, .iload 4, 2, 0), (33, .aload_n 0, 1, 0), (34, .getfield 52, 3, 0), (37, .getfield 164, 3, 0), (40, .if_icmp .ge 63, 3, 0), (43, .aload_n 0, 1, 0), (44, .getfield 56, 3, 0), (47, .aload_n 0, 1, 0), (48, .getfield 52, 3, 0), (51, .invokevirtual 80, 3, 0), (54, .aload_n 0, 1, 0), (55, .getfield 56, 3, 0), (58, .getfield 110, 3, 0), (61, .iload 4, 2, 0), (63, .iconst 0, 1, 0), (64, .iastore, 1, 0), (65, .aload_n 0, 1, 0), (66, .getfield 56, 3, 0), (69, .iload_n 1, 1, 0), (70, .invokevirtual 189, 3, 0), (73, .aload_n 0, 1, 0), (74, .getfield 56, 3, 0), (77, .getfield 193, 3, 0), (80, .invokestatic 196, 3, 0), (83, .istore 5, 2, 0), (85, .iload 5, 2, 0), (87, .iload_n 2, 1, 0), (88, .if_icmp .le 9, 3, 0), (91, .iload 5, 2, 0), (93, .istore_n 2, 1, 0), (94, .iload 4, 2, 0), (96, .istore_n 3, 1, 0), (97, .iinc 4 1, 3, 1), (100, .goto (-69), 3, 0), (103, .iload_n 3, 1, 0), (104, .ireturn, 1, 0)]
def jm_i102 : List jm_IT := [(0, .aload_n 0, 1, 0), (1, .getfield 52, 3, 0), (4, .iload_n 1, 1, 0), (5, .invokevirtual 97, 3, 0), (8, .ifCond .eq 17, 3, 0), (11, .iload_n 2, 1, 0), (12, .invokestatic 138, 3, 0), (15, .ifCond .eq 10, 3, 0), (18, .iload_n 3, 1, 0), (19, .invokestatic 201, 3, 0), (22, .ifCond .ne 5, 3, 0), (25, .iconst (-1), 1, (-1)), (26, .ireturn, 1, 0), (27, .aload_n 0, 1, 0), (28, .iload_n 3, 1, 0), (29, .invokevirtual 204, 3, 0), (32, .aload_n 0, 1, 0), (33, .getfield 56, 3, 0), (36, .getfield 107, 3, 0), (39, .iload_n 1, 1, 0), (40, .iaload, 1, 0), (41, .istore 4, 2, 0), (43, .iconst 1, 1, 1), (44, .istore 5, 2, 0), (46, .iload 5, 2, 0), (48, .bipush 9, 2, 9), (50, .if_icmp .gt 55, 3, 0), (53, .aload_n 0, 1, 0), (54, .getfield 56, 3, 0), (57, .aload_n 0, 1, 0), (58, .getfield 52, 3, 0), (61, .invokevirtual 80, 3, 0), (64, .aload_n 0, 1, 0), (65, .getfield 56, 3, 0), (68, .iload_n 2, 1, 0), (69, .iload 5, 2, 0), (71, .invokevirtual 226, 3, 0), (74, .aload_n 0, 1, 0), (75, .getfield 56, 3, 0), (78, .iload_n 3, 1, 0), (79, .invokevirtual 189, 3, 0), (82, .aload_n 0, 1, 0), (83, .getfield 56, 3, 0), (86, .getfield 107, 3, 0), (89, .iload_n 1, 1, 0), (90, .iaload, 1, 0), (91, .iload 4, 2, 0), (93, .if_icmp .eq 6, 3, 0), (96, .iload 5, 2, 0), (98, .ireturn, 1, 0), (99, .iinc 5 1, 3, 1), (102, .goto (-56), 3, 0), (105, .bipush (-4), 2, (-4)), (107, .ireturn, 1, 0)]
def jm_i103 : List jm_IT := [(0, .iload_n 1, 1, 0), (1, .invokestatic 201, 3, 0), (4, .ifCond .eq 12, 3, 0), (7, .iload_n 2, 1, 0), (8, .iconst 0, 1, 0), (9, .iconst 1, 1, 1), (10, .invokestatic 183, 3, 0), (13, .ifCond .ne 5, 3, 0), (16, .iconst (-1), 1, (-1)), (17, .ireturn, 1, 0), (18, .aload_n 0, 1, 0), (19, .iload_n 1, 1, 0), (20, .invokevirtual 242, 3, 0), (23, .iconst 0, 1, 0), (24, .istore_n 3, 1, 0), (25, .iconst 1, 1, 1), (26, .istore 4, 2, 0), (28, .iload 4, 2, 0), (30, .bipush 16, 2, 16), (32, .if_icmp .ge 28, 3, 0), (35, .aload_n 0, 1, 0), (36, .getfield 15, 3, 0), (39, .iload 4, 2, 0), (41, .iaload, 1, 0), (42, .aload_n 0, 1, 0), (43, .getfield 15, 3, 0), (46, .iload_n 3, 1, 0), (47, .iaload, 1, 0), (48, .if_icmp .le 6, 3, 0), (51, .iload 4, 2, 0), (53, .istore_n 3, 1, 0), (54, .iinc 4 1, 3, 1), (57, .goto (-29), 3, 0), (60, .iload_n 2, 1, 0), (61, .ifCond .ne 7, 3, 0), (64, .iload_n 3, 1, 0), (65, .goto 9, 3, 0), (68, .aload_n 0, 1, 0), (69, .getfield 15, 3, 0), (72, .iload_n 3, 1, 0), (73, .iaload, 1, 0), (74, .ireturn, 1, 0)]
def jm_i104 : List jm_IT := [(0, .aload_n 0, 1, 0), (1, .getfield 15, 3, 0), (4, .iconst 0, 1, 0), (5, .invokestatic 245, 3, 0), (8, .aload_n 0, 1, 0), (9, .getfield 56, 3, 0), (12, .aload_n 0, 1, 0), (13, .getfield 52, 3, 0), (16, .invokevirtual 80, 3, 0), (19, .iconst 1, 1, 1), (20, .istore_n 2, 1, 0), (21, .iload_n 2, 1, 0), (22, .iload_n 1, 1, 0), (23, .if_icmp .gt 53, 3, 0), (26, .aload_n 0, 1, 0), (27, .getfield 56, 3, 0), (30, .invokevirtual 211, 3, 0), (33, .iconst 0, 1, 0), (34, .istore_n 3, 1, 0), (35, .iload_n 3, 1, 0), (36, .aload_n 0, 1, 0), (37, .getfield 56, 3, 0), (40, .getfield 164, 3, 0), (43, .if_icmp .ge 27, 3, 0), (46, .aload_n 0, 1, 0), (47, .getfield 15, 3, 0), (50, .aload_n 0, 1, 0), (51, .getfield 56, 3, 0), (54, .getfield 107, 3, 0), (57, .iload_n 3, 1, 0), (58, .iaload, 1, 0), (59, .dup2, 1, 0), (60, .iaload, 1, 0), (61, .iconst 1, 1, 1), (62, .iadd, 1, 0), (63, .iastore, 1, 0), (64, .iinc 3 1, 3, 1), (67, .goto (-32), 3, 0), (70, .iinc 2 1, 3, 1), (73, .goto (-52), 3, 0), (76, .return_, 1, 0)]
def jm_i105 : List jm_IT := [(0, .iload_n 1, 1, 0), (1, .iconst 0, 1, 0), (2, .iconst 1, 1, 1), (3, .invokestatic 183, 3, 0), (6, .ifCond .ne 5, 3, 0), (9, .iconst (-1), 1, (-1)), (10, .ireturn, 1, 0), (11, .bipush (-4), 2, (-4)), (13, .istore_n 2, 1, 0), (14, .bipush (-4), 2, (-4)), (16, .istore_n 3, 1, 0), (17, .iconst 0, 1, 0), (18, .istore 4, 2, 0), (20, .iload 4, 2, 0), (22, .aload_n 0, 1, 0), (23, .getfield 52, 3, 0), (26, .getfield 164, 3, 0), (29, .if_icmp .ge 42, 3, 0), (32, .aload_n 0, 1, 0), (33, .getfield 52, 3, 0), (36, .getfield 107, 3, 0), (39, .iload 4, 2, 0), (41, .iaload, 1, 0), (42, .invokestatic 251, 3, 0), (45, .istore 5, 2, 0), (47, .iload_n 2, 1, 0), (48, .bipush (-4), 2, (-4)), (50, .if_icmp .eq 9, 3, 0), (53, .iload 5, 2, 0), (55, .iload_n 3, 1, 0), (56, .if_icmp .ge 9, 3, 0), (59, .iload 4, 2, 0), (61, .istore_n 2, 1, 0), (62, .iload 5, 2, 0), (64, .istore_n 3, 1, 0), (65, .iinc 4 1, 3, 1), (68, .goto (-48), 3, 0), (71, .iload_n 1, 1, 0), (72, .ifCond .ne 7, 3, 0), (75, .iload_n 2, 1, 0), (76, .goto 4, 3, 0), (79, .iload_n 3, 1, 0), (80, .ireturn, 1, 0)]
def jm_i106 : List jm_IT := [(0, .iload_n 0, 1, 0), (1, .invokestatic 254, 3, 0), (4, .ifCond .ne 10, 3, 0), (7, .bipush 7, 2, 7), (9, .iload_n 0, 1, 0), (10, .isub, 1, 0), (11, .goto 7, 3, 0), (14, .iload_n 0, 1, 0), (15, .bipush 8, 2, 8), (17, .isub, 1, 0), (18, .ireturn, 1, 0)]
def jm_i107 : List jm_IT := [(0, .iload_n 1, 1, 0), (1, .invokestatic 150, 3, 0), (4, .ifCond .eq 23, 3, 0), (7, .aload_n 0, 1, 0), (8, .getfield 52, 3, 0), (11, .iload_n 2, 1, 0), (12, .invokevirtual 97, 3, 0), (15, .ifCond .eq 12, 3, 0), (18, .iload_n 3, 1, 0), (19, .iconst 0, 1, 0), (20, .iconst 2, 1, 2), (21, .invokestatic 183, 3, 0), (24, .ifCond .ne 5, 3, 0), (27, .iconst (-1), 1, (-1)), (28, .ireturn, 1, 0), (29, .aload_n 0, 1, 0), (30, .iload_n 1, 1, 0), (31, .invokevirtual 63, 3, 0), (34, .istore 4, 2, 0), (36, .iload 4, 2, 0), (38, .ifCond .eq 6, 3, 0), (41, .iload 4, 2, 0), (43, .ireturn, 1, 0), (44, .iload_n 3, 1, 0), (45, .ifCond .ne 8, 3, 0), (48, .bipush 8, 2, 8), (50, .goto 15, 3, 0), (53, .iload_n 3, 1, 0), (54, .iconst 1, 1, 1), (55, .if_icmp .ne 8, 3, 0), (58, .bipush 10, 2, 10), (60, .goto 5, 3, 0), (63, .bipush 16, 2, 16), (65, .istore 5, 2, 0), (67, .iconst 0, 1, 0), (68, .istore 6, 2, 0), (70, .iconst 0, 1, 0), (71, .istore 7, 2, 0), (73, .iload 7, 2, 0), (75, .iload 5, 2, 0), (77, .if_icmp .ge 51, 3, 0), (80, .aload_n 0, 1, 0), (81, .getfield 56, 3, 0), (84, .aload_n 0, 1, 0), (85, .getfield 52, 3, 0), (88, .invokevirtual 80, 3, 0), (91, .aload_n 0, 1, 0), (92, .iload_n 2, 1, 0), (93, .iload_n 3, 1, 0), (94, .iload 7, 2, 0), (96, .invokevirtual 257, 3, 0), (99, .aload_n 0, 1, 0), (100, .aload_n 0, 1, 0), (101, .getfield 11, 3, 0), (104, .iload_n 1, 1, 0), (105, .aaload, 1, 0), (106, .iload_n 2, 1, 0), (107, .invokevirtual 261, 3, 0), (110, .ifCond .eq 12, 3, 0), (113, .iload 6, 2, 0), (115, .iconst 1, 1, 1), (116, .iload 7, 2, 0), (118, .ishl, 1, 0), (119, .ior, 1, 0), (120, .istore 6, 2, 0), (122, .iinc 7 1, 3, 1), (125, .goto (-52), 3, 0), (128, .iload 6, 2, 0), (130, .ireturn, 1, 0)]
def jm_i108 : List jm_IT := [(0, .iload_n 2, 1, 0), (1, .ifCond .ne 16, 3, 0), (4, .aload_n 0, 1, 0), (5, .getfield 56, 3, 0), (8, .getfield 101, 3, 0), (11, .iload_n 1, 1, 0), (12, .iload_n 3, 1, 0), (13, .iastore, 1, 0), (14, .goto 31, 3, 0), (17, .iload_n 2, 1, 0), (18, .iconst 1, 1, 1), (19, .if_icmp .ne 16, 3, 0), (22, .aload_n 0, 1, 0), (23, .getfield 56, 3, 0), (26, .getfield 104, 3, 0), (29, .iload_n 1, 1, 0), (30, .iload_n 3, 1, 0), (31, .iastore, 1, 0), (32, .goto 13, 3, 0), (35, .aload_n 0, 1, 0), (36, .getfield 56, 3, 0), (39, .getfield 107, 3, 0), (42, .iload_n 1, 1, 0), (43, .iload_n 3, 1, 0), (44, .iastore, 1, 0), (45, .return_, 1, 0)]
def jm_i109 : List jm_IT := [(0, .iconst 0, 1, 0), (1, .istore_n 3, 1, 0), (2, .iload_n 3, 1, 0), (3, .aload_n 1, 1, 0), (4, .getfield 84, 3, 0), (7, .if_icmp .ge 43, 3, 0), (10, .aload_n 1, 1, 0), (11, .iload_n 3, 1, 0), (12, .invokevirtual 265, 3, 0), (15, .ifCond .ne 22, 3, 0), (18, .aload_n 1, 1, 0), (19, .iload_n 3, 1, 0), (20, .invokevirtual 91, 3, 0), (23, .aload_n 0, 1, 0), (24, .getfield 56, 3, 0), (27, .getfield 107, 3, 0), (30, .iload_n 2, 1, 0), (31, .iaload, 1, 0), (32, .if_icmp .eq 5, 3, 0), (35, .iconst 0, 1, 0), (36, .ireturn, 1, 0), (37, .aload_n 0, 1, 0), (38, .getfield 56, 3, 0), (41, .invokevirtual 211, 3, 0), (44, .iinc 3 1, 3, 1), (47, .goto (-45), 3, 0), (50, .iconst 1, 1, 1), (51, .ireturn, 1, 0)]
def jm_i110 : List jm_IT := [(0, .iload_n 1, 1, 0), (1, .iconst 1, 1, 1), (2, .bipush 24, 2, 24), (4, .invokestatic 183, 3, 0), (7, .ifCond .ne 5, 3, 0), (10, .iconst (-1), 1, (-1)), (11, .ireturn, 1, 0), (12, .iconst 0, 1, 0), (13, .istore_n 2, 1, 0), (14, .iload_n 2, 1, 0), (15, .iconst 1, 1, 1), (16, .if_icmp .gt 90, 3, 0), (19, .iconst 0, 1, 0), (20, .istore_n 3, 1, 0), (21, .iload_n 3, 1, 0), (22, .iconst 1, 1, 1), (23, .if_icmp .gt 77, 3, 0), (26, .aload_n 0, 1, 0), (27, .iload_n 2, 1, 0), (28, .iload_n 3, 1, 0), (29, .iload_n 1, 1, 0), (30, .invokevirtual 268, 3, 0), (33, .istore 4, 2, 0), (35, .aload_n 0, 1, 0), (36, .iconst 1, 1, 1), (37, .iload_n 2, 1, 0), (38, .isub, 1, 0), (39, .iload_n 3, 1, 0), (40, .iload_n 1, 1, 0), (41, .invokevirtual 268, 3, 0), (44, .iload 4, 2, 0), (46, .if_icmp .lt 7, 3, 0), (49, .iconst 1, 1, 1), (50, .goto 4, 3, 0), (53, .iconst 0, 1, 0), (54, .istore 5, 2, 0), (56, .aload_n 0, 1, 0), (57, .iload_n 2, 1, 0), (58, .iconst 1, 1, 1), (59, .iload_n 3, 1, 0), (60, .isub, 1, 0), (61, .iload_n 1, 1, 0), (62, .invokevirtual 268, 3, 0), (65, .iload 4, 2, 0), (67, .if_icmp .gt 7, 3, 0), (70, .iconst 1, 1, 1), (71, .goto 4, 3, 0), (74, .iconst 0, 1, 0), (75, .istore 6, 2, 0), (77, .iload 5, 2, 0), (79, .ifCond .eq 15, 3, 0), (82, .iload 6, 2, 0), (84, .ifCond .eq 10, 3, 0), (87, .bipush 10, 2, 10), (89, .iload_n 2, 1, 0), (90, .imul, 1, 0), (91, .iload_n 3, 1, 0), (92, .iadd, 1, 0), (93, .ireturn, 1, 0), (94, .iinc 3 1, 3, 1), (97, .goto (-76), 3, 0), (100, .iinc 2 1, 3, 1), (103, .goto (-89), 3, 0), (106, .bipush (-4), 2, (-4)), (108, .ireturn, 1, 0)]
def jm_i111 : List jm_IT := [(0, .aload_n 0, 1, 0), (1, .getfield 56, 3, 0), (4, .aload_n 0, 1, 0), (5, .getfield 52, 3, 0), (8, .invokevirtual 80, 3, 0), (11, .aload_n 0, 1, 0), (12, .getfield 56, 3, 0), (15, .bipush 7, 2, 7), (17, .iload_n 1, 1, 0), (18, .iconst 3, 1, 3), (19, .imul, 1, 0), (20, .invokevirtual 226, 3, 0), (23, .aload_n 0, 1, 0), (24, .getfield 56, 3, 0), (27, .bipush 8, 2, 8), (29, .iload_n 2, 1, 0), (30, .iconst 3, 1, 3), (31, .imul, 1, 0), (32, .invokevirtual 226, 3, 0), (35, .aload_n 0, 1, 0), (36, .getfield 56, 3, 0), (39, .iload_n 3, 1, 0), (40, .invokevirtual 189, 3, 0), (43, .aload_n 0, 1, 0), (44, .getfield 56, 3, 0), (47, .invokevirtual 272, 3, 0), (50, .ireturn, 1, 0)]
def jm_i112 : List jm_IT := [(0, .aload_n 0, 1, 0), (1, .getfield 52, 3, 0), (4, .iload_n 1, 1, 0), (5, .invokevirtual 97, 3, 0), (8, .ifCond .eq 41, 3, 0), (11, .iload_n 2, 1, 0), (12, .invokestatic 167, 3, 0), (15, .ifCond .eq 34, 3, 0), (18, .iload_n 3, 1, 0), (19, .iconst 0, 1, 0), (20, .bipush 7, 2, 7), (22, .invokestatic 183, 3, 0), (25, .ifCond .eq 24, 3, 0), (28, .iload 4, 2, 0), (30, .iconst 2, 1, 2), (31, .bipush 20, 2, 20), (33, .invokestatic 183, 3, 0), (36, .ifCond .eq 13, 3, 0), (39, .iload 5, 2, 0), (41, .iconst 0, 1, 0), (42, .iconst 1, 1, 1), (43, .invokestatic 183, 3, 0), (46, .ifCond .ne 7, 3, 0), (49, .ldc2_w 275, 3, 0), (52, .lreturn, 1, 0), (53, .lconst 0, 1, 0), (54, .lstore 6, 2, 0), (56, .iconst 0, 1, 0), (57, .istore 8, 2, 0), (59, .iload 8, 2, 0), (61, .iconst 1, 1, 1), (62, .iload_n 3, 1, 0), (63, .ishl, 1, 0), (64, .if_icmp .ge 62, 3, 0), (67, .aload_n 0, 1, 0), (68, .getfield 56, 3, 0), (71, .aload_n 0, 1, 0), (72, .getfield 52, 3, 0), (75, .invokevirtual 80, 3, 0), (78, .aload_n 0, 1, 0), (79, .iload 8, 2, 0), (81, .iload_n 3, 1, 0), (82, .invokevirtual 277, 3, 0), (85, .aload_n 0, 1, 0), (86, .getfield 56, 3, 0), (89, .getfield 107, 3, 0), (92, .iload_n 1, 1, 0), (93, .iaload, 1, 0), (94, .invokestatic 254, 3, 0), (97, .iload_n 2, 1, 0), (98, .if_icmp .ne 22, 3, 0), (101, .lload 6, 2, 0), (103, .iload 4, 2, 0), (105, .iconst 1, 1, 1), (106, .isub, 1, 0), (107, .iload_n 3, 1, 0), (108, .iload 8, 2, 0), (110, .invokestatic 196, 3, 0), (113, .isub, 1, 0), (114, .invokestatic 280, 3, 0), (117, .ladd, 1, 0), (118, .lstore 6, 2, 0), (120, .iinc 8 1, 3, 1), (123, .goto (-64), 3, 0), (126, .lload 6, 2, 0), (128, .iload 4, 2, 0), (130, .iload_n 3, 1, 0), (131, .invokestatic 280, 3, 0), (134, .iload 5, 2, 0), (136, .invokestatic 284, 3, 0), (139, .lreturn, 1, 0)]
def jm_i113 : List jm_IT := [(0, .iconst 0, 1, 0), (1, .istore_n 3, 1, 0), (2, .iload_n 3, 1, 0), (3, .iload_n 2, 1, 0), (4, .if_icmp .ge 35, 3, 0), (7, .iload_n 1, 1, 0), (8, .iload_n 3, 1, 0), (9, .ishr, 1, 0), (10, .iconst 1, 1, 1), (11, .iand, 1, 0), (12, .iconst 1, 1, 1), (13, .if_icmp .ne 13, 3, 0), (16, .aload_n 0, 1, 0), (17, .getfield 56, 3, 0), (20, .invokevirtual 288, 3, 0), (23, .goto 10, 3, 0), (26, .aload_n 0, 1, 0), (27, .getfield 56, 3, 0), (30, .invokevirtual 211, 3, 0), (33, .iinc 3 1, 3, 1), (36, .goto (-34), 3, 0), (39, .return_, 1, 0)]
def jm_i114 : List jm_IT := [(0, .lconst 1, 1, 0), (1, .lstore_n 2, 1, 0), (2, .iconst 0, 1, 0), (3, .istore 4, 2, 0), (5, .iload 4, 2, 0), (7, .iload_n 1, 1, 0), (8, .if_icmp .ge 14, 3, 0), (11, .lload_n 2, 1, 0), (12, .iload_n 0, 1, 0), (13, .i2l, 1, 0), (14, .lmul, 1, 0), (15, .lstore_n 2, 1, 0), (16, .iinc 4 1, 3, 1), (19, .goto (-14), 3, 0), (22, .lload_n 2, 1, 0), (23, .lreturn, 1, 0)]
def jm_i115 : List jm_IT := [(0, .iload_n 1, 1, 0), (1, .iconst 0, 1, 0), (2, .iconst 1, 1, 1), (3, .invokestatic 183, 3, 0), (6, .ifCond .ne 7, 3, 0), (9, .ldc2_w 275, 3, 0), (12, .lreturn, 1, 0), (13, .aload_n 0, 1, 0), (14, .getfield 52, 3, 0), (17, .getfield 164, 3, 0), (20, .ifCond .ne 6, 3, 0), (23, .iload_n 1, 1, 0), (24, .i2l, 1, 0), (25, .lreturn, 1, 0), (26, .iconst 0, 1, 0), (27, .istore_n 2, 1, 0), (28, .iconst 0, 1, 0), (29, .istore_n 3, 1, 0), (30, .iload_n 3, 1, 0), (31, .aload_n 0, 1, 0), (32, .getfield 52, 3, 0), (35, .getfield 164, 3, 0), (38, .if_icmp .ge 21, 3, 0), (41, .iload_n 2, 1, 0), (42, .aload_n 0, 1, 0), (43, .getfield 52, 3, 0), (46, .getfield 107, 3, 0), (49, .iload_n 3, 1, 0), (50, .iaload, 1, 0), (51, .iadd, 1, 0), (52, .istore_n 2, 1, 0), (53, .iinc 3 1, 3, 1), (56, .goto (-26), 3, 0), (59, .iload_n 2, 1, 0), (60, .i2l, 1, 0), (61, .aload_n 0, 1, 0), (62, .getfield 52, 3, 0), (65, .getfield 164, 3, 0), (68, .i2l, 1, 0), (69, .iload_n 1, 1, 0), (70, .invokestatic 284, 3, 0), (73, .lreturn, 1, 0)]
def jm_i116 : List jm_IT := [(0, .iload 4, 2, 0), (2, .ifCond .ne 7, 3, 0), (5, .lload_n 0, 1, 0), (6, .goto 4, 3, 0), (9, .lload_n 2, 1, 0), (10, .lstore 5, 2, 0), (12, .lload_n 0, 1, 0), (13, .lload_n 2, 1, 0), (14, .invokestatic 291, 3, 0), (17, .lstore 7, 2, 0), (19, .lload 7, 2, 0), (21, .lconst 0, 1, 0), (22, .lcmp, 1, 0), (23, .ifCond .ne 8, 3, 0), (26, .lload 5, 2, 0), (28, .goto 8, 3, 0), (31, .lload 5, 2, 0), (33, .lload 7, 2, 0), (35, .ldiv, 1, 0), (36, .lreturn, 1, 0)]
def jm_i117 : List jm_IT := [(0, .lload_n 0, 1, 0), (1, .lstore 4, 2, 0), (3, .lload_n 2, 1, 0), (4, .lstore 6, 2, 0), (6, .iconst 0, 1, 0), (7, .istore 8, 2, 0), (9, .iload 8, 2, 0), (11, .bipush 100, 2, 100), (13, .if_icmp .ge 31, 3, 0), (16, .lload 6, 2, 0), (18, .lconst 0, 1, 0), (19, .lcmp, 1, 0), (20, .ifCond .eq 24, 3, 0), (23, .lload 4, 2, 0), (25, .lload 6, 2, 0), (27, .lrem, 1, 0), (28, .lstore 9, 2, 0), (30, .lload 6, 2, 0), (32, .lstore 4, 2, 0), (34, .lload 9, 2, 0), (36, .lstore 6, 2, 0), (38, .iinc 8 1, 3, 1), (41, .goto (-32), 3, 0), (44, .lload 4, 2, 0), (46, .lreturn, 1, 0)]
def jm_i118 : List jm_IT := [(0, .iload_n 1, 1, 0), (1, .invokestatic 150, 3, 0), (4, .ifCond .eq 14, 3, 0), (7, .aload_n 0, 1, 0), (8, .getfield 52, 3, 0), (11, .iload_n 2, 1, 0), (12, .invokevirtual 97, 3, 0), (15, .ifCond .ne 5, 3, 0), (18, .iconst (-1), 1, (-1)), (19, .ireturn, 1, 0), (20, .aload_n 0, 1, 0), (21, .iload_n 1, 1, 0), (22, .invokevirtual 63, 3, 0), (25, .istore_n 3, 1, 0), (26, .iload_n 3, 1, 0), (27, .ifCond .eq 5, 3, 0), (30, .iload_n 3, 1, 0), (31, .ireturn, 1, 0), (32, .aload_n 0, 1, 0), (33, .getfield 11, 3, 0), (36, .iload_n 1, 1, 0), (37, .aaload, 1, 0), (38, .astore 4, 2, 0), (40, .iconst 0, 1, 0), (41, .istore 5, 2, 0), (43, .iload 5, 2, 0), (45, .aload 4, 2, 0), (47, .getfield 84, 3, 0), (50, .if_icmp .ge 58, 3, 0), (53, .aload 4, 2, 0), (55, .iload 5, 2, 0), (57, .invokevirtual 91, 3, 0), (60, .invokestatic 138, 3, 0), (63, .ifCond .eq 36, 3, 0), (66, .iload 5, 2, 0), (68, .ifCond .le 34, 3, 0), (71, .aload_n 0, 1, 0), (72, .iload_n 2, 1, 0), (73, .aload 4, 2, 0), (75, .iload 5, 2, 0), (77, .iconst 1, 1, 1), (78, .isub, 1, 0), (79, .invokevirtual 91, 3, 0), (82, .aload 4, 2, 0), (84, .iload 5, 2, 0), (86, .invokevirtual 91, 3, 0), (89, .iload 5, 2, 0), (91, .iconst 1, 1, 1), (92, .isub, 1, 0), (93, .invokevirtual 295, 3, 0), (96, .ifCond .ne 6, 3, 0), (99, .iload 5, 2, 0), (101, .ireturn, 1, 0), (102, .iinc 5 1, 3, 1), (105, .goto (-62), 3, 0), (108, .bipush (-4), 2, (-4)), (110, .ireturn, 1, 0)]
def jm_i119 : List jm_IT := [(0, .iload_n 3, 1, 0), (1, .iload_n 2, 1, 0), (2, .isub, 1, 0), (3, .invokestatic 299, 3, 0), (6, .aload_n 0, 1, 0), (7, .getfield 52, 3, 0), (10, .iload_n 1, 1, 0), (11, .aload_n 0, 1, 0), (12, .getfield 52, 3, 0), (15, .getfield 119, 3, 0), (18, .iload 4, 2, 0), (20, .iadd, 1, 0), (21, .bipush 24, 2, 24), (23, .irem, 1, 0), (24, .invokevirtual 122, 3, 0), (27, .if_icmp .gt 7, 3, 0), (30, .iconst 1, 1, 1), (31, .goto 4, 3, 0), (34, .iconst 0, 1, 0), (35, .ireturn, 1, 0)]
def jm_i120 : List jm_IT := [(0, .aload_n 0, 1, 0), (1, .iload_n 1, 1, 0), (2, .invokevirtual 63, 3, 0), (5, .istore_n 2, 1, 0), (6, .iload_n 2, 1, 0), (7, .ifCond .eq 5, 3, 0), (10, .iload_n 2, 1, 0), (11, .ireturn, 1, 0), (12, .aload_n 0, 1, 0), (13, .getfield 11, 3, 0), (16, .iload_n 1, 1, 0), (17, .aaload, 1, 0), (18, .astore_n 3, 1, 0), (19, .aload_n 0, 1, 0), (20, .getfield 56, 3, 0), (23, .aload_n 0, 1, 0), (24, .getfield 52, 3, 0), (27, .invokevirtual 80, 3, 0), (30, .iconst 0, 1, 0), (31, .istore 4, 2, 0), (33, .iload 4, 2, 0), (35, .aload_n 3, 1, 0), (36, .getfield 84, 3, 0), (39, .if_icmp .ge 47, 3, 0), (42, .aload_n 3, 1, 0), (43, .iload 4, 2, 0), (45, .invokevirtual 265, 3, 0), (48, .ifCond .ne 25, 3, 0), (51, .aload_n 3, 1, 0), (52, .iload 4, 2, 0), (54, .invokevirtual 91, 3, 0), (57, .aload_n 0, 1, 0), (58, .getfield 56, 3, 0), (61, .getfield 193, 3, 0), (64, .invokestatic 196, 3, 0), (67, .if_icmp .eq 6, 3, 0), (70, .iload 4, 2, 0), (72, .ireturn, 1, 0), (73, .aload_n 0, 1, 0), (74, .getfield 56, 3, 0), (77, .invokevirtual 211, 3, 0), (80, .iinc 4 1, 3, 1), (83, .goto (-50), 3, 0), (86, .bipush (-4), 2, (-4)), (88, .ireturn, 1, 0)]
def jm_i121 : List jm_IT := [(0, .iload_n 1, 1, 0), (1, .iconst 1, 1, 1), (2, .bipush 20, 2, 20), (4, .invokestatic 183, 3, 0), (7, .ifCond .eq 12, 3, 0), (10, .iload_n 3, 1, 0), (11, .iconst 0, 1, 0), (12, .iconst 1, 1, 1), (13, .invokestatic 183, 3, 0), (16, .ifCond .ne 5, 3, 0), (19, .iconst (-1), 1, (-1)), (20, .ireturn, 1, 0), (21, .iload_n 2, 1, 0), (22, .istore 4, 2, 0), (24, .iconst 0, 1, 0), (25, .istore 5, 2, 0), (27, .iconst 0, 1, 0), (28, .istore 6, 2, 0), (30, .iconst 0, 1, 0), (31, .istore 7, 2, 0), (33, .iload 7, 2, 0), (35, .iload_n 1, 1, 0), (36, .if_icmp .ge 110, 3, 0), (39, .aload_n 0, 1, 0), (40, .getfield 56, 3, 0), (43, .aload_n 0, 1, 0), (44, .getfield 52, 3, 0), (47, .invokevirtual 80, 3, 0), (50, .iconst 0, 1, 0), (51, .istore 8, 2, 0), (53, .iload 8, 2, 0), (55, .aload_n 0, 1, 0), (56, .getfield 56, 3, 0), (59, .getfield 164, 3, 0), (62, .if_icmp .ge 31, 3, 0), (65, .iload 4, 2, 0), (67, .invokestatic 304, 3, 0), (70, .istore 4, 2, 0), (72, .aload_n 0, 1, 0), (73, .getfield 56, 3, 0), (76, .getfield 107, 3, 0), (79, .iload 8, 2, 0), (81, .iload 4, 2, 0), (83, .invokestatic 307, 3, 0), (86, .iastore, 1, 0), (87, .iinc 8 1, 3, 1), (90, .goto (-37), 3, 0), (93, .aload_n 0, 1, 0), (94, .getfield 56, 3, 0), (97, .bipush 10, 2, 10), (99, .invokevirtual 189, 3, 0), (102, .iload 5, 2, 0), (104, .aload_n 0, 1, 0), (105, .getfield 56, 3, 0), (108, .getfield 193, 3, 0), (111, .invokestatic 196, 3, 0), (114, .aload_n 0, 1, 0), (115, .getfield 52, 3, 0), (118, .getfield 193, 3, 0), (121, .invokestatic 196, 3, 0), (124, .isub, 1, 0), (125, .iadd, 1, 0), (126, .istore 5, 2, 0), (128, .iload 6, 2, 0), (130, .aload_n 0, 1, 0), (131, .getfield 56, 3, 0), (134, .invokevirtual 272, 3, 0), (137, .iadd, 1, 0), (138, .istore 6, 2, 0), (140, .iinc 7 1, 3, 1), (143, .goto (-110), 3, 0), (146, .iload_n 3, 1, 0), (147, .ifCond .ne 8, 3, 0), (150, .iload 5, 2, 0), (152, .goto 5, 3, 0), (155, .iload 6, 2, 0), (157, .ireturn, 1, 0)]
def jm_i122 : List jm_IT := [(0, .iload_n 0, 1, 0), (1, .ldc_w 310, 3, 1103515245), (4, .imul, 1, 0), (5, .sipush 12345, 3, 12345), (8, .iadd, 1, 0), (9, .ireturn, 1, 0)]
def jm_i123 : List jm_IT := [(0, .iload_n 0, 1, 0), (1, .ldc_w 311, 3, 2147483647), (4, .iand, 1, 0), (5, .ldc_w 312, 3, 65536), (8, .idiv, 1, 0), (9, .bipush 16, 2, 16), (11, .irem, 1, 0), (12, .ireturn, 1, 0)]
def jm_i124 : List jm_IT := [(0, .aload_n 0, 1, 0), (1, .getfield 59, 3, 0), (4, .aload_n 0, 1, 0), (5, .getfield 52, 3, 0), (8, .invokevirtual 80, 3, 0), (11, .aload_n 0, 1, 0), (12, .iconst 1, 1, 1), (13, .putfield 313, 3, 0), (16, .aload_n 0, 1, 0), (17, .getfield 52, 3, 0), (20, .getfield 317, 3, 0), (23, .ireturn, 1, 0)]
def jm_i125 : List jm_IT := [(0, .aload_n 0, 1, 0), (1, .getfield 313, 3, 0), (4, .ifCond .ne 6, 3, 0), (7, .bipush (-3), 2, (-3)), (9, .ireturn, 1, 0), (10, .aload_n 0, 1, 0), (11, .getfield 52, 3, 0), (14, .aload_n 0, 1, 0), (15, .getfield 59, 3, 0), (18, .invokevirtual 80, 3, 0), (21, .aload_n 0, 1, 0), (22, .getfield 52, 3, 0), (25, .getfield 317, 3, 0), (28, .ireturn, 1, 0)]
def jm_i126 : List jm_IT := [(0, .iload_n 1, 1, 0), (1, .tableswitch 99 0 6 #[43, 51, 59, 67, 75, 83, 91], 43, 0), (44, .aload_n 0, 1, 0), (45, .getfield 52, 3, 0), (48, .getfield 164, 3, 0), (51, .ireturn, 1, 0), (52, .aload_n 0, 1, 0), (53, .getfield 52, 3, 0), (56, .getfield 173, 3, 0), (59, .ireturn, 1, 0), (60, .aload_n 0, 1, 0), (61, .getfield 52, 3, 0), (64, .getfield 119, 3, 0), (67, .ireturn, 1, 0), (68, .aload_n 0, 1, 0), (69, .getfield 52, 3, 0), (72, .getfield 317, 3, 0), (75, .ireturn, 1, 0), (76, .aload_n 0, 1, 0), (77, .getfield 52, 3, 0), (80, .getfield 193, 3, 0), (83, .ireturn, 1, 0), (84, .aload_n 0, 1, 0), (85, .getfield 52, 3, 0), (88, .invokevirtual 207, 3, 0), (91, .ireturn, 1, 0), (92, .aload_n 0, 1, 0), (93, .getfield 52, 3, 0), (96, .invokevirtual 320, 3, 0), (99, .ireturn, 1, 0), (100, .iconst (-1), 1, (-1)), (101, .ireturn, 1, 0)]
def jm_i127 : List jm_IT := [(0, .iload_n 1, 1, 0), (1, .invokestatic 150, 3, 0), (4, .ifCond .ne 5, 3, 0), (7, .iconst (-1), 1, (-1)), (8, .ireturn, 1, 0), (9, .iload_n 2, 1, 0), (10, .ifCond .ne 14, 3, 0), (13, .aload_n 0, 1, 0), (14, .getfield 11, 3, 0), (17, .iload_n 1, 1, 0), (18, .aaload, 1, 0), (19, .invokevirtual 323, 3, 0), (22, .iconst 0, 1, 0), (23, .ireturn, 1, 0), (24, .iload_n 2, 1, 0), (25, .iconst 1, 1, 1), (26, .if_icmp .ne 21, 3, 0), (29, .iload_n 3, 1, 0), (30, .invokestatic 326, 3, 0), (33, .ifCond .eq 14, 3, 0), (36, .iload 4, 2, 0), (38, .iconst 0, 1, 0), (39, .bipush 9, 2, 9), (41, .invokestatic 183, 3, 0), (44, .ifCond .ne 5, 3, 0), (47, .iconst (-1), 1, (-1)), (48, .ireturn, 1, 0), (49, .aload_n 0, 1, 0), (50, .getfield 11, 3, 0), (53, .iload_n 1, 1, 0), (54, .aaload, 1, 0), (55, .iload_n 3, 1, 0), (56, .iload 4, 2, 0), (58, .invokevirtual 329, 3, 0), (61, .iconst 0, 1, 0), (62, .ireturn, 1, 0)]
def jm_i128 : List jm_IT := [(0, .iload_n 1, 1, 0), (1, .invokestatic 150, 3, 0), (4, .ifCond .eq 18, 3, 0), (7, .iload_n 2, 1, 0), (8, .iconst 0, 1, 0), (9, .iconst 2, 1, 2), (10, .invokestatic 183, 3, 0), (13, .ifCond .eq 9, 3, 0), (16, .iload_n 3, 1, 0), (17, .bipush 100, 2, 100), (19, .if_icmp .le 5, 3, 0), (22, .iconst (-1), 1, (-1)), (23, .ireturn, 1, 0), (24, .iload_n 3, 1, 0), (25, .ifCond .ge 6, 3, 0), (28, .bipush (-14), 2, (-14)), (30, .ireturn, 1, 0), (31, .aload_n 0, 1, 0), (32, .getfield 11, 3, 0), (35, .iload_n 1, 1, 0), (36, .aaload, 1, 0), (37, .iload_n 2, 1, 0), (38, .iload_n 3, 1, 0), (39, .invokevirtual 332, 3, 0), (42, .iconst 0, 1, 0), (43, .ireturn, 1, 0)]
def jm_i129 : List jm_IT := [(0, .aload_n 0, 1, 0), (1, .iload_n 1, 1, 0), (2, .invokevirtual 63, 3, 0), (5, .istore 4, 2, 0), (7, .iload 4, 2, 0), (9, .ifCond .eq 6, 3, 0), (12, .iload 4, 2, 0), (14, .ireturn, 1, 0), (15, .aload_n 0, 1, 0), (16, .getfield 11, 3, 0), (19, .iload_n 1, 1, 0), (20, .aaload, 1, 0), (21, .iload_n 2, 1, 0), (22, .invokevirtual 335, 3, 0), (25, .ifCond .ne 6, 3, 0), (28, .bipush (-13), 2, (-13)), (30, .ireturn, 1, 0), (31, .aload_n 0, 1, 0), (32, .getfield 11, 3, 0), (35, .iload_n 1, 1, 0), (36, .aaload, 1, 0), (37, .iload_n 2, 1, 0), (38, .iload_n 3, 1, 0), (39, .invokevirtual 338, 3, 0), (42, .iconst 0, 1, 0), (43, .ireturn, 1, 0)]
def jm_i130 : List jm_IT := [(0, .iload_n 1, 1, 0), (1, .invokestatic 150, 3, 0), (4, .ifCond .eq 10, 3, 0), (7, .iload_n 3, 1, 0), (8, .invokestatic 150, 3, 0), (11, .ifCond .ne 5, 3, 0), (14, .iconst (-1), 1, (-1)), (15, .ireturn, 1, 0), (16, .aload_n 0, 1, 0), (17, .getfield 11, 3, 0), (20, .iload_n 1, 1, 0), (21, .aaload, 1, 0), (22, .astore 6, 2, 0), (24, .aload_n 0, 1, 0), (25, .getfield 11, 3, 0), (28, .iload_n 3, 1, 0), (29, .aaload, 1, 0), (30, .astore 7, 2, 0), (32, .aload 6, 2, 0), (34, .getfield 353, 3, 0), (37, .ifCond .eq 11, 3, 0), (40, .aload 7, 2, 0), (42, .getfield 353, 3, 0), (45, .ifCond .ne 6, 3, 0), (48, .bipush (-11), 2, (-11)), (50, .ireturn, 1, 0), (51, .aload 6, 2, 0), (53, .getfield 353, 3, 0), (56, .iconst 2, 1, 2), (57, .if_icmp .ne 25, 3, 0), (60, .aload 7, 2, 0), (62, .getfield 353, 3, 0), (65, .iconst 2, 1, 2), (66, .if_icmp .ne 16, 3, 0), (69, .aload 6, 2, 0), (71, .getfield 67, 3, 0), (74, .aload 7, 2, 0), (76, .getfield 67, 3, 0), (79, .if_icmp .eq 6, 3, 0), (82, .bipush (-12), 2, (-12)), (84, .ireturn, 1, 0), (85, .aload 6, 2, 0), (87, .iload_n 2, 1, 0), (88, .iload 5, 2, 0), (90, .invokevirtual 356, 3, 0), (93, .ifCond .eq 15, 3, 0), (96, .aload 7, 2, 0), (98, .iload 4, 2, 0), (100, .iload 5, 2, 0), (102, .invokevirtual 356, 3, 0), (105, .ifCond .ne 6, 3, 0), (108, .bipush (-13), 2, (-13)), (110, .ireturn, 1, 0), (111, .aload 6, 2, 0), (113, .getfield 360, 3, 0), (116, .iload_n 2, 1, 0), (117, .aload 7, 2, 0), (119, .getfield 360, 3, 0), (122, .iload 4, 2, 0), (124, .iload 5, 2, 0), (126, .invokestatic 363, 3, 0), (129, .iload 5, 2, 0), (131, .ireturn, 1, 0)]
def jm_i131 : List jm_IT := [(0, .aload_n 0, 1, 0), (1, .iload_n 1, 1, 0), (2, .invokevirtual 153, 3, 0), (5, .istore_n 2, 1, 0), (6, .iload_n 2, 1, 0), (7, .ifCond .eq 5, 3, 0), (10, .iload_n 2, 1, 0), (11, .ireturn, 1, 0), (12, .aload_n 0, 1, 0), (13, .getfield 43, 3, 0), (16, .aload_n 0, 1, 0), (17, .getfield 11, 3, 0), (20, .iload_n 1, 1, 0), (21, .aaload, 1, 0), (22, .getfield 156, 3, 0), (25, .aaload, 1, 0), (26, .aload_n 0, 1, 0), (27, .getfield 11, 3, 0), (30, .iload_n 1, 1, 0), (31, .aaload, 1, 0), (32, .getfield 158, 3, 0), (35, .invokevirtual 369, 3, 0), (38, .ireturn, 1, 0)]
def jm_i132 : List jm_IT := [(0, .aload_n 0, 1, 0), (1, .getfield 56, 3, 0), (4, .aload_n 0, 1, 0), (5, .getfield 52, 3, 0), (8, .invokevirtual 80, 3, 0), (11, .aload_n 0, 1, 0), (12, .getfield 56, 3, 0), (15, .iload_n 1, 1, 0), (16, .invokevirtual 189, 3, 0), (19, .return_, 1, 0)]
def jm_i133 : List jm_IT := [(0, .aload_n 0, 1, 0), (1, .iload_n 1, 1, 0), (2, .iconst 2, 1, 2), (3, .invokevirtual 378, 3, 0), (6, .ireturn, 1, 0)]
def jm_i134 : List jm_IT := [(0, .aload_n 0, 1, 0), (1, .iload_n 1, 1, 0), (2, .iconst 1, 1, 1), (3, .invokevirtual 378, 3, 0), (6, .ireturn, 1, 0)]
def jm_i135 : List jm_IT := [(0, .iload_n 1, 1, 0), (1, .invokestatic 150, 3, 0), (4, .ifCond .ne 5, 3, 0), (7, .iconst (-1), 1, (-1)), (8, .ireturn, 1, 0), (9, .aload_n 0, 1, 0), (10, .getfield 11, 3, 0), (13, .iload_n 1, 1, 0), (14, .aaload, 1, 0), (15, .getfield 353, 3, 0), (18, .ifCond .ne 6, 3, 0), (21, .bipush (-11), 2, (-11)), (23, .ireturn, 1, 0), (24, .aload_n 0, 1, 0), (25, .getfield 11, 3, 0), (28, .iload_n 1, 1, 0), (29, .aaload, 1, 0), (30, .getfield 353, 3, 0), (33, .iload_n 2, 1, 0), (34, .if_icmp .ne 7, 3, 0), (37, .iconst 0, 1, 0), (38, .goto 5, 3, 0), (41, .bipush (-12), 2, (-12)), (43, .ireturn, 1, 0)]
def jm_i136 : List jm_IT := [(0, .iload_n 0, 1, 0), (1, .iload_n 1, 1, 0), (2, .if_icmp .lt 12, 3, 0), (5, .iload_n 0, 1, 0), (6, .iload_n 2, 1, 0), (7, .if_icmp .gt 7, 3, 0), (10, .iconst 1, 1, 1), (11, .goto 4, 3, 0), (14, .iconst 0, 1, 0), (15, .ireturn, 1, 0)]
def jm_i137 : List jm_IT := [(0, .iload_n 0, 1, 0), (1, .iconst 0, 1, 0), (2, .bipush 7, 2, 7), (4, .invokestatic 183, 3, 0), (7, .ireturn, 1, 0)]
def jm_i138 : List jm_IT := [(0, .iload_n 0, 1, 0), (1, .iconst 0, 1, 0), (2, .bipush 15, 2, 15), (4, .invokestatic 183, 3, 0), (7, .ireturn, 1, 0)]
def jm_i139 : List jm_IT := [(0, .iload_n 0, 1, 0), (1, .iconst 0, 1, 0), (2, .iconst 1, 1, 1), (3, .invokestatic 183, 3, 0), (6, .ireturn, 1, 0)]
def jm_i140 : List jm_IT := [(0, .iload_n 0, 1, 0), (1, .iconst 0, 1, 0), (2, .bipush 7, 2, 7), (4, .invokestatic 183, 3, 0), (7, .ireturn, 1, 0)]
def jm_i141 : List jm_IT := [(0, .iload_n 0, 1, 0), (1, .iconst 0, 1, 0), (2, .bipush 99, 2, 99), (4, .invokestatic 183, 3, 0), (7, .ireturn, 1, 0)]
def jm_i142 : List jm_IT := [(0, .iload_n 0, 1, 0), (1, .bipush 7, 2, 7), (3, .if_icmp .gt 7, 3, 0), (6, .iconst 0, 1, 0), (7, .goto 4, 3, 0), (10, .iconst 1, 1, 1), (11, .ireturn, 1, 0)]
def jm_i143 : List jm_IT := [(0, .iload_n 0, 1, 0), (1, .iload_n 1, 1, 0), (2, .if_icmp .lt 12, 3, 0), (5, .iload_n 0, 1, 0), (6, .iload_n 2, 1, 0), (7, .if_icmp .gt 7, 3, 0), (10, .iconst 1, 1, 1), (11, .goto 4, 3, 0), (14, .iconst 0, 1, 0), (15, .ireturn, 1, 0)]
def jm_i144 : List jm_IT := [(0, .iload_n 0, 1, 0), (1, .iload_n 1, 1, 0), (2, .if_icmp .ge 7, 3, 0), (5, .iload_n 0, 1, 0), (6, .goto 4, 3, 0), (9, .iload_n 1, 1, 0), (10, .ireturn, 1, 0)]
def jm_i145 : List jm_IT := [(0, .iload_n 0, 1, 0), (1, .iload_n 1, 1, 0), (2, .if_icmp .ge 9, 3, 0), (5, .iload_n 1, 1, 0), (6, .iload_n 0, 1, 0), (7, .isub, 1, 0), (8, .goto 6, 3, 0), (11, .iload_n 0, 1, 0), (12, .iload_n 1, 1, 0), (13, .isub, 1, 0), (14, .ireturn, 1, 0)]
def jm_i146 : List jm_IT := [(0, .iconst 0, 1, 0), (1, .istore_n 2, 1, 0), (2, .iload_n 2, 1, 0), (3, .bipush 78, 2, 78), (5, .if_icmp .ge 15, 3, 0), (8, .aload_n 1, 1, 0), (9, .iload_n 2, 1, 0), (10, .aload_n 0, 1, 0), (11, .iload_n 2, 1, 0), (12, .iaload, 1, 0), (13, .iastore, 1, 0), (14, .iinc 2 1, 3, 1), (17, .goto (-15), 3, 0), (20, .return_, 1, 0)]
def jm_i147 : List jm_IT := [(0, .bipush 36, 2, 36), (2, .iconst 5, 1, 5), (3, .iload_n 0, 1, 0), (4, .imul, 1, 0), (5, .iadd, 1, 0), (6, .iload_n 1, 1, 0), (7, .iadd, 1, 0), (8, .ireturn, 1, 0)]
def jm_i148 : List jm_IT := [(0, .bipush 66, 2, 66), (2, .iconst 2, 1, 2), (3, .iload_n 0, 1, 0), (4, .imul, 1, 0), (5, .iadd, 1, 0), (6, .iload_n 1, 1, 0), (7, .iadd, 1, 0), (8, .ireturn, 1, 0)]
def jm_i149 : List jm_IT := [(0, .iload_n 1, 1, 0), (1, .iconst 0, 1, 0), (2, .aload_n 0, 1, 0), (3, .getfield 9, 3, 0), (6, .iconst 0, 1, 0), (7, .iaload, 1, 0), (8, .iconst 1, 1, 1), (9, .isub, 1, 0), (10, .invokestatic 46, 3, 0), (13, .ireturn, 1, 0)]
def jm_i150 : List jm_IT := [(0, .iload_n 1, 1, 0), (1, .iconst 0, 1, 0), (2, .aload_n 0, 1, 0), (3, .getfield 9, 3, 0), (6, .iconst 1, 1, 1), (7, .iaload, 1, 0), (8, .iconst 1, 1, 1), (9, .isub, 1, 0), (10, .invokestatic 46, 3, 0), (13, .ireturn, 1, 0)]
def jm_i151 : List jm_IT := [(0, .iload_n 0, 1, 0), (1, .iconst 0, 1, 0), (2, .bipush 15, 2, 15), (4, .invokestatic 46, 3, 0), (7, .ireturn, 1, 0)]
def jm_i152 : List jm_IT := [(0, .iload_n 0, 1, 0), (1, .iload_n 1, 1, 0), (2, .ishr, 1, 0), (3, .iconst 1, 1, 1), (4, .iand, 1, 0), (5, .iconst 1, 1, 1), (6, .if_icmp .ne 7, 3, 0), (9, .iconst 1, 1, 1), (10, .goto 4, 3, 0), (13, .iconst 0, 1, 0), (14, .ireturn, 1, 0)]
def jm_i153 : List jm_IT := [(0, .iconst 0, 1, 0), (1, .istore_n 1, 1, 0), (2, .iconst 0, 1, 0), (3, .istore_n 2, 1, 0), (4, .iload_n 2, 1, 0), (5, .bipush 16, 2, 16), (7, .if_icmp .ge 17, 3, 0), (10, .iload_n 1, 1, 0), (11, .iload_n 0, 1, 0), (12, .iload_n 2, 1, 0), (13, .ishr, 1, 0), (14, .iconst 1, 1, 1), (15, .iand, 1, 0), (16, .iadd, 1, 0), (17, .istore_n 1, 1, 0), (18, .iinc 2 1, 3, 1), (21, .goto (-17), 3, 0), (24, .iload_n 1, 1, 0), (25, .ireturn, 1, 0)]
def jm_i154 : List jm_IT := [(0, .iload_n 0, 1, 0), (1, .bipush 8, 2, 8), (3, .if_icmp .lt 7, 3, 0), (6, .iconst 1, 1, 1), (7, .goto 4, 3, 0), (10, .iconst 0, 1, 0), (11, .ireturn, 1, 0)]
def jm_i155 : List jm_IT := [(0, .iload_n 2, 1, 0), (1, .istore_n 3, 1, 0), (2, .iconst 0, 1, 0), (3, .istore 4, 2, 0), (5, .iconst 0, 1, 0), (6, .istore 5, 2, 0), (8, .iload 5, 2, 0), (10, .bipush 16, 2, 16), (12, .if_icmp .ge 60, 3, 0), (15, .aload_n 0, 1, 0), (16, .iload_n 1, 1, 0), (17, .iload 5, 2, 0), (19, .iadd, 1, 0), (20, .iaload, 1, 0), (21, .istore 6, 2, 0), (23, .iload 6, 2, 0), (25, .ifCond .eq 41, 3, 0), (28, .iload 6, 2, 0), (30, .iload 4, 2, 0), (32, .if_icmp .lt 34, 3, 0), (35, .iload 6, 2, 0), (37, .iload 4, 2, 0), (39, .if_icmp .ne 20, 3, 0), (42, .iload 5, 2, 0), (44, .iload_n 2, 1, 0), (45, .invokestatic 50, 3, 0), (48, .iload_n 3, 1, 0), (49, .iload_n 2, 1, 0), (50, .invokestatic 50, 3, 0), (53, .if_icmp .lt 6, 3, 0), (56, .goto 10, 3, 0), (59, .iload 5, 2, 0), (61, .istore_n 3, 1, 0), (62, .iload 6, 2, 0), (64, .istore 4, 2, 0), (66, .iinc 5 1, 3, 1), (69, .goto (-61), 3, 0), (72, .iload_n 3, 1, 0), (73, .ireturn, 1, 0)]
def jm_i156 : List jm_IT := [(0, .aload_n 0, 1, 0), (1, .iload_n 1, 1, 0), (2, .iconst 2, 1, 2), (3, .invokestatic 54, 3, 0), (6, .iaload, 1, 0), (7, .istore_n 2, 1, 0), (8, .bipush (-4), 2, (-4)), (10, .istore_n 3, 1, 0), (11, .iconst 0, 1, 0), (12, .istore 4, 2, 0), (14, .iload 4, 2, 0), (16, .aload_n 0, 1, 0), (17, .iconst 0, 1, 0), (18, .iaload, 1, 0), (19, .if_icmp .ge 48, 3, 0), (22, .iload 4, 2, 0), (24, .iload_n 1, 1, 0), (25, .if_icmp .eq 36, 3, 0), (28, .iload_n 3, 1, 0), (29, .ifCond .lt 29, 3, 0), (32, .aload_n 0, 1, 0), (33, .iload 4, 2, 0), (35, .iconst 2, 1, 2), (36, .invokestatic 54, 3, 0), (39, .iaload, 1, 0), (40, .iload_n 2, 1, 0), (41, .invokestatic 50, 3, 0), (44, .aload_n 0, 1, 0), (45, .iload_n 3, 1, 0), (46, .iconst 2, 1, 2), (47, .invokestatic 54, 3, 0), (50, .iaload, 1, 0), (51, .iload_n 2, 1, 0), (52, .invokestatic 50, 3, 0), (55, .if_icmp .ge 6, 3, 0), (58, .iload 4, 2, 0), (60, .istore_n 3, 1, 0), (61, .iinc 4 1, 3, 1), (64, .goto (-50), 3, 0), (67, .iload_n 3, 1, 0), (68, .ifCond .ge 7, 3, 0), (71, .iload_n 2, 1, 0), (72, .goto 10, 3, 0), (75, .aload_n 0, 1, 0), (76, .iload_n 3, 1, 0), (77, .iconst 2, 1, 2), (78, .invokestatic 54, 3, 0), (81, .iaload, 1, 0), (82, .ireturn, 1, 0)]
def jm_i157 : List jm_IT := [(0, .aload_n 0, 1, 0), (1, .iload_n 1, 1, 0), (2, .iconst 2, 1, 2), (3, .invokestatic 54, 3, 0), (6, .iaload, 1, 0), (7, .istore_n 2, 1, 0), (8, .aload_n 0, 1, 0), (9, .iconst 2, 1, 2), (10, .iaload, 1, 0), (11, .istore_n 3, 1, 0), (12, .aload_n 0, 1, 0), (13, .iload_n 1, 1, 0), (14, .iconst 0, 1, 0), (15, .invokestatic 54, 3, 0), (18, .iaload, 1, 0), (19, .tableswitch 90 1 6 #[37, 45, 51, 53, 68, 45], 37, 0), (56, .aload_n 0, 1, 0), (57, .bipush 20, 2, 20), (59, .iload_n 2, 1, 0), (60, .invokestatic 57, 3, 0), (63, .ireturn, 1, 0), (64, .aload_n 0, 1, 0), (65, .iload_n 1, 1, 0), (66, .invokestatic 61, 3, 0), (69, .ireturn, 1, 0), (70, .iload_n 2, 1, 0), (71, .ireturn, 1, 0), (72, .iload_n 3, 1, 0), (73, .iconst 2, 1, 2), (74, .irem, 1, 0), (75, .ifCond .ne 10, 3, 0), (78, .bipush 15, 2, 15), (80, .iload_n 2, 1, 0), (81, .isub, 1, 0), (82, .goto 4, 3, 0), (85, .iload_n 2, 1, 0), (86, .ireturn, 1, 0), (87, .iload_n 3, 1, 0), (88, .bipush 20, 2, 20), (90, .if_icmp .ge 8, 3, 0), (93, .iload_n 3, 1, 0), (94, .iconst 4, 1, 4), (95, .if_icmp .gt 12, 3, 0), (98, .aload_n 0, 1, 0), (99, .iconst 4, 1, 4), (100, .iload_n 2, 1, 0), (101, .invokestatic 57, 3, 0), (104, .goto 4, 3, 0), (107, .iload_n 2, 1, 0), (108, .ireturn, 1, 0), (109, .aload_n 0, 1, 0), (110, .iconst 4, 1, 4), (111, .iload_n 2, 1, 0), (112, .invokestatic 57, 3, 0), (115, .ireturn, 1, 0)]
def jm_i158 : List jm_IT := [(0, .iconst 1, 1, 1), (1, .aload_n 0, 1, 0), (2, .iload_n 1, 1, 0), (3, .iconst 1, 1, 1), (4, .invokestatic 54, 3, 0), (7, .iaload, 1, 0), (8, .iconst 4, 1, 4), (9, .idiv, 1, 0), (10, .iadd, 1, 0), (11, .istore_n 3, 1, 0), (12, .aload_n 0, 1, 0), (13, .iload_n 1, 1, 0), (14, .iconst 0, 1, 0), (15, .invokestatic 54, 3, 0), (18, .iaload, 1, 0), (19, .tableswitch 61 2 7 #[37, 61, 41, 61, 43, 49], 37, 0), (56, .iload_n 3, 1, 0), (57, .iconst 1, 1, 1), (58, .iadd, 1, 0), (59, .ireturn, 1, 0), (60, .iconst 3, 1, 3), (61, .ireturn, 1, 0), (62, .iconst 2, 1, 2), (63, .iload_n 3, 1, 0), (64, .iconst 1, 1, 1), (65, .iadd, 1, 0), (66, .imul, 1, 0), (67, .ireturn, 1, 0), (68, .iload_n 2, 1, 0), (69, .iconst 3, 1, 3), (70, .irem, 1, 0), (71, .ifCond .ne 7, 3, 0), (74, .iconst 1, 1, 1), (75, .goto 4, 3, 0), (78, .iconst 0, 1, 0), (79, .ireturn, 1, 0), (80, .iload_n 3, 1, 0), (81, .ireturn, 1, 0)]
def jm_i159 : List jm_IT := [(0, .iload_n 0, 1, 0), (1, .iconst 3, 1, 3), (2, .if_icmp .ne 7, 3, 0), (5, .iconst 2, 1, 2), (6, .goto 13, 3, 0), (9, .iload_n 0, 1, 0), (10, .iconst 5, 1, 5), (11, .if_icmp .ne 7, 3, 0), (14, .iconst 0, 1, 0), (15, .goto 4, 3, 0), (18, .iconst 1, 1, 1), (19, .ireturn, 1, 0)]
def jm_i160 : List jm_IT := [(0, .aload_n 0, 1, 0), (1, .iload_n 1, 1, 0), (2, .iconst 4, 1, 4), (3, .invokestatic 54, 3, 0), (6, .iaload, 1, 0), (7, .bipush 9, 2, 9), (9, .if_icmp .eq 30, 3, 0), (12, .aload_n 0, 1, 0), (13, .iload_n 1, 1, 0), (14, .iconst 0, 1, 0), (15, .invokestatic 54, 3, 0), (18, .iaload, 1, 0), (19, .iconst 5, 1, 5), (20, .if_icmp .eq 15, 3, 0), (23, .aload_n 0, 1, 0), (24, .iload_n 1, 1, 0), (25, .iconst 3, 1, 3), (26, .invokestatic 54, 3, 0), (29, .iaload, 1, 0), (30, .bipush 48, 2, 48), (32, .if_icmp .ge 7, 3, 0), (35, .iconst 1, 1, 1), (36, .goto 4, 3, 0), (39, .iconst 0, 1, 0), (40, .ireturn, 1, 0)]
def jm_i161 : List jm_IT := [(0, .aload_n 0, 1, 0), (1, .iload_n 1, 1, 0), (2, .iconst 4, 1, 4), (3, .invokestatic 54, 3, 0), (6, .iaload, 1, 0), (7, .istore_n 3, 1, 0), (8, .aload_n 0, 1, 0), (9, .iload_n 1, 1, 0), (10, .invokestatic 65, 3, 0), (13, .ifCond .eq 25, 3, 0), (16, .aload_n 0, 1, 0), (17, .iload_n 3, 1, 0), (18, .iconst 1, 1, 1), (19, .invokestatic 69, 3, 0), (22, .iaload, 1, 0), (23, .iconst 1, 1, 1), (24, .if_icmp .eq 14, 3, 0), (27, .aload_n 0, 1, 0), (28, .iload_n 3, 1, 0), (29, .iconst 0, 1, 0), (30, .invokestatic 69, 3, 0), (33, .iaload, 1, 0), (34, .iload_n 2, 1, 0), (35, .if_icmp .eq 4, 3, 0), (38, .return_, 1, 0), (39, .aload_n 0, 1, 0), (40, .iload_n 3, 1, 0), (41, .iconst 1, 1, 1), (42, .invokestatic 69, 3, 0), (45, .iconst 1, 1, 1), (46, .iastore, 1, 0), (47, .aload_n 0, 1, 0), (48, .iload_n 3, 1, 0), (49, .iconst 0, 1, 0), (50, .invokestatic 69, 3, 0), (53, .iconst 1, 1, 1), (54, .iload_n 2, 1, 0), (55, .isub, 1, 0), (56, .iastore, 1, 0), (57, .return_, 1, 0)]
def jm_i162 : List jm_IT := [(0, .aload_n 0, 1, 0), (1, .iload_n 1, 1, 0), (2, .iconst 2, 1, 2), (3, .invokestatic 54, 3, 0), (6, .iaload, 1, 0), (7, .istore_n 3, 1, 0), (8, .iload_n 2, 1, 0), (9, .ifCond .eq 7, 3, 0), (12, .iload_n 3, 1, 0), (13, .goto 8, 3, 0), (16, .aload_n 0, 1, 0), (17, .iload_n 1, 1, 0), (18, .invokestatic 72, 3, 0), (21, .istore 4, 2, 0), (23, .iload_n 3, 1, 0), (24, .iload 4, 2, 0), (26, .invokestatic 50, 3, 0), (29, .aload_n 0, 1, 0), (30, .iload_n 1, 1, 0), (31, .aload_n 0, 1, 0), (32, .iconst 2, 1, 2), (33, .iaload, 1, 0), (34, .invokestatic 75, 3, 0), (37, .invokestatic 78, 3, 0), (40, .istore 5, 2, 0), (42, .iload 4, 2, 0), (44, .iload_n 3, 1, 0), (45, .if_icmp .le 10, 3, 0), (48, .iload_n 3, 1, 0), (49, .iload 5, 2, 0), (51, .iadd, 1, 0), (52, .goto 7, 3, 0), (55, .iload_n 3, 1, 0), (56, .iload 5, 2, 0), (58, .isub, 1, 0), (59, .istore 6, 2, 0), (61, .aload_n 0, 1, 0), (62, .iload_n 1, 1, 0), (63, .iconst 2, 1, 2), (64, .invokestatic 54, 3, 0), (67, .iload 6, 2, 0), (69, .iastore, 1, 0), (70, .iload 6, 2, 0), (72, .iload_n 3, 1, 0), (73, .if_icmp .eq 22, 3, 0), (76, .aload_n 0, 1, 0), (77, .iconst 4, 1, 4), (78, .iload 6, 2, 0), (80, .iadd, 1, 0), (81, .iaload, 1, 0), (82, .ifCond .le 13, 3, 0), (85, .aload_n 0, 1, 0), (86, .iconst 4, 1, 4), (87, .iload 6, 2, 0), (89, .iadd, 1, 0), (90, .dup2, 1, 0), (91, .iaload, 1, 0), (92, .iconst 1, 1, 1), (93, .isub, 1, 0), (94, .iastore, 1, 0), (95, .aload_n 0, 1, 0), (96, .iload_n 1, 1, 0), (97, .iconst 3, 1, 3), (98, .invokestatic 54, 3, 0), (101, .bipush 99, 2, 99), (103, .aload_n 0, 1, 0), (104, .iload_n 1, 1, 0), (105, .iconst 3, 1, 3), (106, .invokestatic 54, 3, 0), (109, .iaload, 1, 0), (110, .aload_n 0, 1, 0), (111, .iload_n 1, 1, 0), (112, .iconst 0, 1, 0), (113, .invokestatic 54, 3, 0), (116, .iaload, 1, 0), (117, .invokestatic 81, 3, 0), (120, .iadd, 1, 0), (121, .invokestatic 78, 3, 0), (124, .iastore, 1, 0), (125, .iload 6, 2, 0), (127, .invokestatic 85, 3, 0), (130, .iload_n 3, 1, 0), (131, .invokestatic 85, 3, 0), (134, .if_icmp .eq 7, 3, 0), (137, .iconst 1, 1, 1), (138, .goto 4, 3, 0), (141, .iconst 0, 1, 0), (142, .istore 7, 2, 0), (144, .iload 7, 2, 0), (146, .ifCond .eq 12, 3, 0), (149, .aload_n 0, 1, 0), (150, .iload_n 1, 1, 0), (151, .iload_n 3, 1, 0), (152, .invokestatic 85, 3, 0), (155, .invokestatic 88, 3, 0), (158, .iload 7, 2, 0), (160, .ireturn, 1, 0)]
def jm_i163 : List jm_IT := [(0, .iconst 0, 1, 0), (1, .istore_n 2, 1, 0), (2, .iconst 0, 1, 0), (3, .istore_n 3, 1, 0), (4, .iload_n 3, 1, 0), (5, .aload_n 0, 1, 0), (6, .iconst 0, 1, 0), (7, .iaload, 1, 0), (8, .if_icmp .ge 28, 3, 0), (11, .iload_n 2, 1, 0), (12, .aload_n 0, 1, 0), (13, .iload_n 3, 1, 0), (14, .iload_n 1, 1, 0), (15, .invokestatic 92, 3, 0), (18, .ifCond .eq 9, 3, 0), (21, .iconst 1, 1, 1), (22, .iload_n 3, 1, 0), (23, .ishl, 1, 0), (24, .goto 4, 3, 0), (27, .iconst 0, 1, 0), (28, .ior, 1, 0), (29, .istore_n 2, 1, 0), (30, .iinc 3 1, 3, 1), (33, .goto (-29), 3, 0), (36, .aload_n 0, 1, 0), (37, .iconst 2, 1, 2), (38, .aload_n 0, 1, 0), (39, .iconst 2, 1, 2), (40, .iaload, 1, 0), (41, .iconst 1, 1, 1), (42, .iadd, 1, 0), (43, .bipush 24, 2, 24), (45, .irem, 1, 0), (46, .iastore, 1, 0), (47, .aload_n 0, 1, 0), (48, .iconst 3, 1, 3), (49, .dup2, 1, 0), (50, .iaload, 1, 0), (51, .aload_n 0, 1, 0), (52, .iconst 2, 1, 2), (53, .iaload, 1, 0), (54, .ifCond .ne 7, 3, 0), (57, .iconst 1, 1, 1), (58, .goto 4, 3, 0), (61, .iconst 0, 1, 0), (62, .iadd, 1, 0), (63, .iastore, 1, 0), (64, .iload_n 2, 1, 0), (65, .ireturn, 1, 0)]
def jm_i164 : List jm_IT := [(0, .iconst 0, 1, 0), (1, .istore_n 2, 1, 0), (2, .iload_n 2, 1, 0), (3, .iload_n 1, 1, 0), (4, .if_icmp .ge 15, 3, 0), (7, .aload_n 0, 1, 0), (8, .iconst 0, 1, 0), (9, .invokestatic 96, 3, 0), (12, .istore_n 3, 1, 0), (13, .iinc 2 1, 3, 1), (16, .goto (-14), 3, 0), (19, .return_, 1, 0)]
def jm_i165 : List jm_IT := [(0, .iconst 0, 1, 0), (1, .istore_n 1, 1, 0), (2, .iconst 0, 1, 0), (3, .istore_n 2, 1, 0), (4, .iload_n 2, 1, 0), (5, .aload_n 0, 1, 0), (6, .iconst 1, 1, 1), (7, .iaload, 1, 0), (8, .if_icmp .ge 21, 3, 0), (11, .iload_n 1, 1, 0), (12, .aload_n 0, 1, 0), (13, .iload_n 2, 1, 0), (14, .iconst 1, 1, 1), (15, .invokestatic 69, 3, 0), (18, .iaload, 1, 0), (19, .iload_n 2, 1, 0), (20, .ishl, 1, 0), (21, .ior, 1, 0), (22, .istore_n 1, 1, 0), (23, .iinc 2 1, 3, 1), (26, .goto (-22), 3, 0), (29, .iload_n 1, 1, 0), (30, .ireturn, 1, 0)]
def jm_i166 : List jm_IT := [(0, .aload_n 0, 1, 0), (1, .iload_n 1, 1, 0), (2, .iconst 4, 1, 4), (3, .invokestatic 54, 3, 0), (6, .iload_n 2, 1, 0), (7, .iastore, 1, 0), (8, .aload_n 0, 1, 0), (9, .iload_n 1, 1, 0), (10, .iconst 3, 1, 3), (11, .invokestatic 54, 3, 0), (14, .iconst 0, 1, 0), (15, .iastore, 1, 0), (16, .return_, 1, 0)]
def jm_i167 : List jm_IT := [(0, .aload_n 0, 1, 0), (1, .iconst 3, 1, 3), (2, .iaload, 1, 0), (3, .aload_n 0, 1, 0), (4, .iconst 2, 1, 2), (5, .iaload, 1, 0), (6, .iload_n 1, 1, 0), (7, .iadd, 1, 0), (8, .bipush 24, 2, 24), (10, .idiv, 1, 0), (11, .iadd, 1, 0), (12, .sipush 999, 3, 999), (15, .if_icmp .gt 7, 3, 0), (18, .iconst 1, 1, 1), (19, .goto 4, 3, 0), (22, .iconst 0, 1, 0), (23, .ireturn, 1, 0)]
def jm_i168 : List jm_IT := [(0, .aload_n 0, 1, 0), (1, .getfield 100, 3, 0), (4, .aload_n 0, 1, 0), (5, .getfield 104, 3, 0), (8, .if_icmp .ge 24, 3, 0), (11, .aload_n 0, 1, 0), (12, .getfield 43, 3, 0), (15, .aload_n 0, 1, 0), (16, .getfield 107, 3, 0), (19, .aload_n 0, 1, 0), (20, .getfield 100, 3, 0), (23, .iadd, 1, 0), (24, .iaload, 1, 0), (25, .sipush 255, 3, 255), (28, .iand, 1, 0), (29, .goto 4, 3, 0), (32, .iconst (-1), 1, (-1)), (33, .ireturn, 1, 0)]
def jm_i169 : List jm_IT := [(0, .aload_n 0, 1, 0), (1, .getfield 22, 3, 0), (4, .iload_n 1, 1, 0), (5, .iconst 0, 1, 0), (6, .iastore, 1, 0), (7, .iconst 0, 1, 0), (8, .istore_n 3, 1, 0), (9, .iload_n 3, 1, 0), (10, .iload_n 2, 1, 0), (11, .if_icmp .ge 58, 3, 0), (14, .aload_n 0, 1, 0), (15, .invokevirtual 110, 3, 0), (18, .bipush 48, 2, 48), (20, .bipush 57, 2, 57), (22, .invokestatic 46, 3, 0), (25, .ifCond .ne 5, 3, 0), (28, .iconst 0, 1, 0), (29, .ireturn, 1, 0), (30, .aload_n 0, 1, 0), (31, .getfield 22, 3, 0), (34, .iload_n 1, 1, 0), (35, .bipush 10, 2, 10), (37, .aload_n 0, 1, 0), (38, .getfield 22, 3, 0), (41, .iload_n 1, 1, 0), (42, .iaload, 1, 0), (43, .imul, 1, 0), (44, .aload_n 0, 1, 0), (45, .invokevirtual 110, 3, 0), (48, .iadd, 1, 0), (49, .bipush 48, 2, 48), (51, .isub, 1, 0), (52, .iastore, 1, 0), (53, .aload_n 0, 1, 0), (54, .dup, 1, 0), (55, .getfield 100, 3, 0), (58, .iconst 1, 1, 1), (59, .iadd, 1, 0), (60, .putfield 100, 3, 0), (63, .iinc 3 1, 3, 1), (66, .goto (-57), 3, 0), (69, .iconst 1, 1, 1), (70, .ireturn, 1, 0)]
def jm_i170 : List jm_IT := [(0, .aload_n 0, 1, 0), (1, .invokevirtual 110, 3, 0), (4, .istore_n 1, 1, 0), (5, .aload_n 0, 1, 0), (6, .dup, 1, 0), (7, .getfield 100, 3, 0), (10, .iconst 1, 1, 1), (11, .iadd, 1, 0), (12, .putfield 100, 3, 0), (15, .iload_n 1, 1, 0), (16, .lookupswitch 170 #[(99, 60), (102, 106), (104, 160), (109, 96), (119, 133), (120, 106)], 60, 0), (76, .aload_n 0, 1, 0), (77, .iconst 0, 1, 0), (78, .iconst 1, 1, 1), (79, .invokevirtual 114, 3, 0), (82, .ifCond .eq 25, 3, 0), (85, .aload_n 0, 1, 0), (86, .iconst 1, 1, 1), (87, .iconst 1, 1, 1), (88, .invokevirtual 114, 3, 0), (91, .ifCond .eq 16, 3, 0), (94, .aload_n 0, 1, 0), (95, .iconst 2, 1, 2), (96, .iconst 2, 1, 2), (97, .invokevirtual 114, 3, 0), (100, .ifCond .eq 7, 3, 0), (103, .iconst 1, 1, 1), (104, .goto 4, 3, 0), (107, .iconst 0, 1, 0), (108, .istore_n 2, 1, 0), (109, .goto 89, 3, 0), (112, .aload_n 0, 1, 0), (113, .iconst 0, 1, 0), (114, .iconst 1, 1, 1), (115, .invokevirtual 114, 3, 0), (118, .istore_n 2, 1, 0), (119, .goto 79, 3, 0), (122, .aload_n 0, 1, 0), (123, .iconst 0, 1, 0), (124, .iconst 2, 1, 2), (125, .invokevirtual 114, 3, 0), (128, .ifCond .eq 16, 3, 0), (131, .aload_n 0, 1, 0), (132, .iconst 1, 1, 1), (133, .iconst 1, 1, 1), (134, .invokevirtual 114, 3, 0), (137, .ifCond .eq 7, 3, 0), (140, .iconst 1, 1, 1), (141, .goto 4, 3, 0), (144, .iconst 0, 1, 0), (145, .istore_n 2, 1, 0), (146, .goto 52, 3, 0), (149, .aload_n 0, 1, 0), (150, .iconst 0, 1, 0), (151, .iconst 1, 1, 1), (152, .invokevirtual 114, 3, 0), (155, .ifCond .eq 16, 3, 0), (158, .aload_n 0, 1, 0), (159, .iconst 1, 1, 1), (160, .iconst 1, 1, 1), (161, .invokevirtual 114, 3, 0), (164, .ifCond .eq 7, 3, 0), (167, .iconst 1, 1, 1), (168, .goto 4, 3, 0), (171, .iconst 0, 1, 0), (172, .istore_n 2, 1, 0), (173, .goto 25, 3, 0), (176, .aload_n 0, 1, 0), (177, .iconst 0, 1, 0), (178, .iconst 2, 1, 2), (179, .invokevirtual 114, 3, 0), (182, .istore_n 2, 1, 0), (183, .goto 15, 3, 0), (186, .aload_n 0, 1, 0), (187, .dup, 1, 0), (188, .getfield 100, 3, 0), (191, .iconst 1, 1, 1), (192, .isub, 1, 0), (193, .putfield 100, 3, 0), (196, .iconst 0, 1, 0), (197, .ireturn, 1, 0), (198, .iload_n 2, 1, 0), (199, .ifCond .eq 12, 3, 0), (202, .aload_n 0, 1, 0), (203, .invokevirtual 110, 3, 0), (206, .bipush 59, 2, 59), (208, .if_icmp .eq 5, 3, 0), (211, .iconst 0, 1, 0), (212, .ireturn, 1, 0), (213, .aload_n 0, 1, 0), (214, .dup, 1, 0), (215, .getfield 100, 3, 0), (218, .iconst 1, 1, 1), (219, .iadd, 1, 0), (220, .putfield 100, 3, 0), (223, .iconst 1, 1, 1), (224, .ireturn, 1, 0)]
def jm_i171 : List jm_IT := [(0, .aload_n 0, 1, 0), (1, .getfield 9, 3, 0), (4, .iconst 0, 1, 0), (5, .iaload, 1, 0), (6, .istore 4, 2, 0), (8, .aload_n 0, 1, 0), (9, .getfield 9, 3, 0), (12, .iload 4, 2, 0), (14, .iconst 0, 1, 0), (15, .invokestatic 54, 3, 0), (18, .iload_n 1, 1, 0), (19, .iastore, 1, 0), (20, .aload_n 0, 1, 0), (21, .getfield 9, 3, 0), (24, .iload 4, 2, 0), (26, .iconst 1, 1, 1), (27, .invokestatic 54, 3, 0), (30, .iload_n 2, 1, 0), (31, .iastore, 1, 0), (32, .aload_n 0, 1, 0), (33, .getfield 9, 3, 0), (36, .iload 4, 2, 0), (38, .iconst 2, 1, 2), (39, .invokestatic 54, 3, 0), (42, .iload_n 3, 1, 0), (43, .iastore, 1, 0), (44, .aload_n 0, 1, 0), (45, .getfield 9, 3, 0), (48, .iload 4, 2, 0), (50, .iconst 3, 1, 3), (51, .invokestatic 54, 3, 0), (54, .iconst 0, 1, 0), (55, .iastore, 1, 0), (56, .aload_n 0, 1, 0), (57, .getfield 9, 3, 0), (60, .iload 4, 2, 0), (62, .iconst 4, 1, 4), (63, .invokestatic 54, 3, 0), (66, .bipush 9, 2, 9), (68, .iastore, 1, 0), (69, .aload_n 0, 1, 0), (70, .getfield 9, 3, 0), (73, .iconst 0, 1, 0), (74, .dup2, 1, 0), (75, .iaload, 1, 0), (76, .iconst 1, 1, 1), (77, .iadd, 1, 0), (78, .iastore, 1, 0), (79, .return_, 1, 0)]
def jm_i172 : List jm_IT := [(0, .aload_n 0, 1, 0), (1, .getfield 9, 3, 0), (4, .aload_n 0, 1, 0), (5, .getfield 9, 3, 0), (8, .iconst 1, 1, 1), (9, .iaload, 1, 0), (10, .iconst 0, 1, 0), (11, .invokestatic 69, 3, 0), (14, .iload_n 1, 1, 0), (15, .iastore, 1, 0), (16, .aload_n 0, 1, 0), (17, .getfield 9, 3, 0), (20, .aload_n 0, 1, 0), (21, .getfield 9, 3, 0), (24, .iconst 1, 1, 1), (25, .iaload, 1, 0), (26, .iconst 1, 1, 1), (27, .invokestatic 69, 3, 0), (30, .iconst 0, 1, 0), (31, .iastore, 1, 0), (32, .aload_n 0, 1, 0), (33, .getfield 9, 3, 0), (36, .iconst 1, 1, 1), (37, .dup2, 1, 0), (38, .iaload, 1, 0), (39, .iconst 1, 1, 1), (40, .iadd, 1, 0), (41, .iastore, 1, 0), (42, .return_, 1, 0)]
def jm_i173 : List jm_IT := [(0, .aload_n 0, 1, 0), (1, .getfield 22, 3, 0), (4, .iconst 0, 1, 0), (5, .iaload, 1, 0), (6, .istore_n 2, 1, 0), (7, .aload_n 0, 1, 0), (8, .getfield 22, 3, 0), (11, .iconst 1, 1, 1), (12, .iaload, 1, 0), (13, .istore_n 3, 1, 0), (14, .iload_n 1, 1, 0), (15, .lookupswitch 185 #[(99, 49), (102, 119), (109, 94), (119, 150), (120, 119)], 49, 0), (64, .iload_n 2, 1, 0), (65, .bipush 8, 2, 8), (67, .if_icmp .ge 26, 3, 0), (70, .aload_n 0, 1, 0), (71, .getfield 22, 3, 0), (74, .iconst 2, 1, 2), (75, .iaload, 1, 0), (76, .invokestatic 118, 3, 0), (79, .ifCond .eq 14, 3, 0), (82, .aload_n 0, 1, 0), (83, .getfield 9, 3, 0), (86, .iconst 0, 1, 0), (87, .iaload, 1, 0), (88, .bipush 6, 2, 6), (90, .if_icmp .ne 5, 3, 0), (93, .iconst 0, 1, 0), (94, .ireturn, 1, 0), (95, .aload_n 0, 1, 0), (96, .iload_n 2, 1, 0), (97, .iload_n 3, 1, 0), (98, .aload_n 0, 1, 0), (99, .getfield 22, 3, 0), (102, .iconst 2, 1, 2), (103, .iaload, 1, 0), (104, .invokevirtual 122, 3, 0), (107, .iconst 1, 1, 1), (108, .ireturn, 1, 0), (109, .iload_n 2, 1, 0), (110, .iconst 1, 1, 1), (111, .if_icmp .gt 14, 3, 0), (114, .aload_n 0, 1, 0), (115, .getfield 9, 3, 0), (118, .iconst 1, 1, 1), (119, .iaload, 1, 0), (120, .bipush 6, 2, 6), (122, .if_icmp .ne 5, 3, 0), (125, .iconst 0, 1, 0), (126, .ireturn, 1, 0), (127, .aload_n 0, 1, 0), (128, .iload_n 2, 1, 0), (129, .invokevirtual 126, 3, 0), (132, .iconst 1, 1, 1), (133, .ireturn, 1, 0), (134, .iload_n 2, 1, 0), (135, .invokestatic 118, 3, 0), (138, .ifCond .ne 5, 3, 0), (141, .iconst 0, 1, 0), (142, .ireturn, 1, 0), (143, .aload_n 0, 1, 0), (144, .getfield 9, 3, 0), (147, .iload_n 1, 1, 0), (148, .bipush 102, 2, 102), (150, .if_icmp .ne 7, 3, 0), (153, .iconst 4, 1, 4), (154, .goto 5, 3, 0), (157, .bipush 20, 2, 20), (159, .iload_n 2, 1, 0), (160, .iadd, 1, 0), (161, .iload_n 3, 1, 0), (162, .iastore, 1, 0), (163, .iconst 1, 1, 1), (164, .ireturn, 1, 0), (165, .aload_n 0, 1, 0), (166, .iload_n 2, 1, 0), (167, .invokevirtual 130, 3, 0), (170, .ifCond .eq 17, 3, 0), (173, .iload_n 3, 1, 0), (174, .bipush 9, 2, 9), (176, .if_icmp .eq 13, 3, 0), (179, .aload_n 0, 1, 0), (180, .iload_n 3, 1, 0), (181, .invokevirtual 133, 3, 0), (184, .ifCond .ne 5, 3, 0), (187, .iconst 0, 1, 0), (188, .ireturn, 1, 0), (189, .aload_n 0, 1, 0), (190, .getfield 9, 3, 0), (193, .iload_n 2, 1, 0), (194, .iload_n 3, 1, 0), (195, .invokestatic 136, 3, 0), (198, .iconst 1, 1, 1), (199, .ireturn, 1, 0), (200, .iload_n 2, 1, 0), (201, .iconst 1, 1, 1), (202, .bipush 60, 2, 60), (204, .invokestatic 46, 3, 0), (207, .ifCond .eq 14, 3, 0), (210, .aload_n 0, 1, 0), (211, .getfield 9, 3, 0), (214, .iload_n 2, 1, 0), (215, .invokestatic 139, 3, 0), (218, .ifCond .ne 5, 3, 0), (221, .iconst 0, 1, 0), (222, .ireturn, 1, 0), (223, .aload_n 0, 1, 0), (224, .getfield 9, 3, 0), (227, .iload_n 2, 1, 0), (228, .invokestatic 142, 3, 0), (231, .iconst 1, 1, 1), (232, .ireturn, 1, 0)]
def jm_i174 : List jm_IT := [(0, .aload_n 0, 1, 0), (1, .iload_n 1, 1, 0), (2, .iconst 0, 1, 0), (3, .invokevirtual 146, 3, 0), (6, .istore_n 2, 1, 0), (7, .iload_n 2, 1, 0), (8, .ifCond .eq 5, 3, 0), (11, .iload_n 2, 1, 0), (12, .ireturn, 1, 0), (13, .aload_n 0, 1, 0), (14, .bipush 100, 2, 100), (16, .iload_n 1, 1, 0), (17, .imul, 1, 0), (18, .putfield 107, 3, 0), (21, .aload_n 0, 1, 0), (22, .aload_n 0, 1, 0), (23, .getfield 40, 3, 0), (26, .iload_n 1, 1, 0), (27, .iaload, 1, 0), (28, .putfield 104, 3, 0), (31, .aload_n 0, 1, 0), (32, .iconst 0, 1, 0), (33, .putfield 100, 3, 0), (36, .iconst 0, 1, 0), (37, .istore_n 3, 1, 0), (38, .iconst 0, 1, 0), (39, .istore 4, 2, 0), (41, .aload_n 0, 1, 0), (42, .invokevirtual 149, 3, 0), (45, .ifCond .ne 13, 3, 0), (48, .sipush (-1000), 3, (-1000)), (51, .aload_n 0, 1, 0), (52, .getfield 100, 3, 0), (55, .isub, 1, 0), (56, .istore 4, 2, 0), (58, .iinc 3 1, 3, 1), (61, .iload 4, 2, 0), (63, .ifCond .ne 14, 3, 0), (66, .aload_n 0, 1, 0), (67, .getfield 100, 3, 0), (70, .aload_n 0, 1, 0), (71, .getfield 104, 3, 0), (74, .if_icmp .lt (-33), 3, 0), (77, .aload_n 0, 1, 0), (78, .getfield 9, 3, 0), (81, .aload_n 0, 1, 0), (82, .getfield 19, 3, 0), (85, .invokestatic 153, 3, 0), (88, .aload_n 0, 1, 0), (89, .iconst 0, 1, 0), (90, .putfield 100, 3, 0), (93, .iload 4, 2, 0), (95, .ifCond .ne 66, 3, 0), (98, .aload_n 0, 1, 0), (99, .getfield 100, 3, 0), (102, .aload_n 0, 1, 0), (103, .getfield 104, 3, 0), (106, .if_icmp .ge 55, 3, 0), (109, .aload_n 0, 1, 0), (110, .getfield 100, 3, 0), (113, .istore 5, 2, 0), (115, .aload_n 0, 1, 0), (116, .invokevirtual 110, 3, 0), (119, .istore 6, 2, 0), (121, .aload_n 0, 1, 0), (122, .invokevirtual 149, 3, 0), (125, .istore 7, 2, 0), (127, .aload_n 0, 1, 0), (128, .iload 6, 2, 0), (130, .invokevirtual 157, 3, 0), (133, .ifCond .eq 6, 3, 0), (136, .goto (-43), 3, 0), (139, .sipush (-2000), 3, (-2000)), (142, .iload 5, 2, 0), (144, .isub, 1, 0), (145, .istore 4, 2, 0), (147, .aload_n 0, 1, 0), (148, .getfield 19, 3, 0), (151, .aload_n 0, 1, 0), (152, .getfield 9, 3, 0), (155, .invokestatic 153, 3, 0), (158, .goto (-65), 3, 0), (161, .iload 4, 2, 0), (163, .ifCond .ne 7, 3, 0), (166, .iload_n 3, 1, 0), (167, .goto 5, 3, 0), (170, .iload 4, 2, 0), (172, .ireturn, 1, 0)]
def jm_i175 : List jm_IT := [(0, .aload_n 0, 1, 0), (1, .iload_n 1, 1, 0), (2, .invokevirtual 130, 3, 0), (5, .ifCond .eq 13, 3, 0), (8, .iload_n 2, 1, 0), (9, .iconst 0, 1, 0), (10, .bipush 7, 2, 7), (12, .invokestatic 46, 3, 0), (15, .ifCond .ne 5, 3, 0), (18, .iconst (-1), 1, (-1)), (19, .ireturn, 1, 0), (20, .iload_n 2, 1, 0), (21, .tableswitch 68 5 7 #[27, 36, 51], 27, 0), (48, .aload_n 0, 1, 0), (49, .getfield 9, 3, 0), (52, .iload_n 1, 1, 0), (53, .invokestatic 72, 3, 0), (56, .ireturn, 1, 0), (57, .aload_n 0, 1, 0), (58, .getfield 9, 3, 0), (61, .iload_n 1, 1, 0), (62, .aload_n 0, 1, 0), (63, .getfield 9, 3, 0), (66, .iconst 2, 1, 2), (67, .iaload, 1, 0), (68, .invokestatic 75, 3, 0), (71, .ireturn, 1, 0), (72, .aload_n 0, 1, 0), (73, .getfield 9, 3, 0), (76, .iload_n 1, 1, 0), (77, .invokestatic 65, 3, 0), (80, .ifCond .eq 7, 3, 0), (83, .iconst 1, 1, 1), (84, .goto 4, 3, 0), (87, .iconst 0, 1, 0), (88, .ireturn, 1, 0), (89, .aload_n 0, 1, 0), (90, .getfield 9, 3, 0), (93, .iload_n 1, 1, 0), (94, .iload_n 2, 1, 0), (95, .invokestatic 54, 3, 0), (98, .iaload, 1, 0), (99, .ireturn, 1, 0)]
def jm_i176 : List jm_IT := [(0, .aload_n 0, 1, 0), (1, .iload_n 1, 1, 0), (2, .invokevirtual 133, 3, 0), (5, .ifCond .eq 25, 3, 0), (8, .iload_n 2, 1, 0), (9, .iconst 0, 1, 0), (10, .iconst 1, 1, 1), (11, .invokestatic 46, 3, 0), (14, .ifCond .eq 16, 3, 0), (17, .aload_n 0, 1, 0), (18, .getfield 9, 3, 0), (21, .iload_n 1, 1, 0), (22, .iload_n 2, 1, 0), (23, .invokestatic 69, 3, 0), (26, .iaload, 1, 0), (27, .goto 4, 3, 0), (30, .iconst (-1), 1, (-1)), (31, .ireturn, 1, 0)]
def jm_i177 : List jm_IT := [(0, .iconst 0, 1, 0), (1, .istore_n 2, 1, 0), (2, .iconst 0, 1, 0), (3, .istore_n 3, 1, 0), (4, .iload_n 3, 1, 0), (5, .aload_n 0, 1, 0), (6, .iconst 0, 1, 0), (7, .iaload, 1, 0), (8, .if_icmp .ge 30, 3, 0), (11, .iload_n 2, 1, 0), (12, .aload_n 0, 1, 0), (13, .iload_n 3, 1, 0), (14, .iconst 2, 1, 2), (15, .invokestatic 54, 3, 0), (18, .iaload, 1, 0), (19, .iload_n 1, 1, 0), (20, .if_icmp .ne 9, 3, 0), (23, .iconst 1, 1, 1), (24, .iload_n 3, 1, 0), (25, .ishl, 1, 0), (26, .goto 4, 3, 0), (29, .iconst 0, 1, 0), (30, .ior, 1, 0), (31, .istore_n 2, 1, 0), (32, .iinc 3 1, 3, 1), (35, .goto (-31), 3, 0), (38, .iload_n 2, 1, 0), (39, .ireturn, 1, 0)]
def jm_i178 : List jm_IT := [(0, .iload_n 1, 1, 0), (1, .invokestatic 118, 3, 0), (4, .ifCond .eq 12, 3, 0), (7, .iload_n 2, 1, 0), (8, .iconst 0, 1, 0), (9, .iconst 2, 1, 2), (10, .invokestatic 46, 3, 0), (13, .ifCond .ne 5, 3, 0), (16, .iconst (-1), 1, (-1)), (17, .ireturn, 1, 0), (18, .iload_n 2, 1, 0), (19, .ifCond .ne 14, 3, 0), (22, .aload_n 0, 1, 0), (23, .getfield 9, 3, 0), (26, .iconst 4, 1, 4), (27, .iload_n 1, 1, 0), (28, .iadd, 1, 0), (29, .iaload, 1, 0), (30, .goto 28, 3, 0), (33, .iload_n 2, 1, 0), (34, .iconst 1, 1, 1), (35, .if_icmp .ne 15, 3, 0), (38, .aload_n 0, 1, 0), (39, .getfield 9, 3, 0), (42, .bipush 20, 2, 20), (44, .iload_n 1, 1, 0), (45, .iadd, 1, 0), (46, .iaload, 1, 0), (47, .goto 11, 3, 0), (50, .aload_n 0, 1, 0), (51, .getfield 9, 3, 0), (54, .iload_n 1, 1, 0), (55, .invokestatic 160, 3, 0), (58, .ireturn, 1, 0)]
def jm_i179 : List jm_IT := [(0, .iload_n 2, 1, 0), (1, .invokestatic 118, 3, 0), (4, .ifCond .ne 5, 3, 0), (7, .iconst (-1), 1, (-1)), (8, .ireturn, 1, 0), (9, .aload_n 0, 1, 0), (10, .iload_n 1, 1, 0), (11, .invokevirtual 163, 3, 0), (14, .istore_n 3, 1, 0), (15, .iload_n 3, 1, 0), (16, .ifCond .eq 5, 3, 0), (19, .iload_n 3, 1, 0), (20, .ireturn, 1, 0), (21, .aload_n 0, 1, 0), (22, .getfield 9, 3, 0), (25, .iconst 0, 1, 0), (26, .iaload, 1, 0), (27, .bipush 6, 2, 6), (29, .if_icmp .ne 6, 3, 0), (32, .bipush (-2), 2, (-2)), (34, .ireturn, 1, 0), (35, .aload_n 0, 1, 0), (36, .aload_n 0, 1, 0), (37, .getfield 31, 3, 0), (40, .iload_n 1, 1, 0), (41, .iaload, 1, 0), (42, .aload_n 0, 1, 0), (43, .getfield 34, 3, 0), (46, .iload_n 1, 1, 0), (47, .iaload, 1, 0), (48, .iload_n 2, 1, 0), (49, .invokevirtual 122, 3, 0), (52, .aload_n 0, 1, 0), (53, .getfield 9, 3, 0), (56, .iconst 0, 1, 0), (57, .iaload, 1, 0), (58, .iconst 1, 1, 1), (59, .isub, 1, 0), (60, .ireturn, 1, 0)]
def jm_i180 : List jm_IT := [(0, .iload_n 1, 1, 0), (1, .iconst 0, 1, 0), (2, .iconst 1, 1, 1), (3, .invokestatic 46, 3, 0), (6, .ifCond .ne 5, 3, 0), (9, .iconst (-1), 1, (-1)), (10, .ireturn, 1, 0), (11, .aload_n 0, 1, 0), (12, .getfield 9, 3, 0), (15, .iconst 1, 1, 1), (16, .iaload, 1, 0), (17, .bipush 6, 2, 6), (19, .if_icmp .ne 6, 3, 0), (22, .bipush (-2), 2, (-2)), (24, .ireturn, 1, 0), (25, .aload_n 0, 1, 0), (26, .iload_n 1, 1, 0), (27, .invokevirtual 126, 3, 0), (30, .aload_n 0, 1, 0), (31, .getfield 9, 3, 0), (34, .iconst 1, 1, 1), (35, .iaload, 1, 0), (36, .iconst 1, 1, 1), (37, .isub, 1, 0), (38, .ireturn, 1, 0)]
def jm_i181 : List jm_IT := [(0, .aload_n 0, 1, 0), (1, .iload_n 1, 1, 0), (2, .invokevirtual 130, 3, 0), (5, .ifCond .eq 17, 3, 0), (8, .iload_n 2, 1, 0), (9, .bipush 9, 2, 9), (11, .if_icmp .eq 13, 3, 0), (14, .aload_n 0, 1, 0), (15, .iload_n 2, 1, 0), (16, .invokevirtual 133, 3, 0), (19, .ifCond .ne 5, 3, 0), (22, .iconst (-1), 1, (-1)), (23, .ireturn, 1, 0), (24, .aload_n 0, 1, 0), (25, .getfield 9, 3, 0), (28, .iload_n 1, 1, 0), (29, .iconst 4, 1, 4), (30, .invokestatic 54, 3, 0), (33, .iaload, 1, 0), (34, .istore_n 3, 1, 0), (35, .aload_n 0, 1, 0), (36, .getfield 9, 3, 0), (39, .iload_n 1, 1, 0), (40, .iload_n 2, 1, 0), (41, .invokestatic 136, 3, 0), (44, .iload_n 3, 1, 0), (45, .ireturn, 1, 0)]
def jm_i182 : List jm_IT := [(0, .iload_n 1, 1, 0), (1, .invokestatic 118, 3, 0), (4, .ifCond .eq 22, 3, 0), (7, .iload_n 2, 1, 0), (8, .iconst 0, 1, 0), (9, .iconst 1, 1, 1), (10, .invokestatic 46, 3, 0), (13, .ifCond .eq 13, 3, 0), (16, .iload_n 3, 1, 0), (17, .iconst 0, 1, 0), (18, .bipush 9, 2, 9), (20, .invokestatic 46, 3, 0), (23, .ifCond .ne 5, 3, 0), (26, .iconst (-1), 1, (-1)), (27, .ireturn, 1, 0), (28, .iload_n 2, 1, 0), (29, .ifCond .ne 7, 3, 0), (32, .iconst 4, 1, 4), (33, .goto 5, 3, 0), (36, .bipush 20, 2, 20), (38, .iload_n 1, 1, 0), (39, .iadd, 1, 0), (40, .istore 4, 2, 0), (42, .aload_n 0, 1, 0), (43, .getfield 9, 3, 0), (46, .iload 4, 2, 0), (48, .iaload, 1, 0), (49, .istore 5, 2, 0), (51, .aload_n 0, 1, 0), (52, .getfield 9, 3, 0), (55, .iload 4, 2, 0), (57, .iload_n 3, 1, 0), (58, .iastore, 1, 0), (59, .iload 5, 2, 0), (61, .ireturn, 1, 0)]
def jm_i183 : List jm_IT := [(0, .aload_n 0, 1, 0), (1, .iload_n 1, 1, 0), (2, .invokevirtual 130, 3, 0), (5, .ifCond .eq 10, 3, 0), (8, .iload_n 2, 1, 0), (9, .invokestatic 118, 3, 0), (12, .ifCond .ne 5, 3, 0), (15, .iconst (-1), 1, (-1)), (16, .ireturn, 1, 0), (17, .aload_n 0, 1, 0), (18, .getfield 9, 3, 0), (21, .iload_n 1, 1, 0), (22, .iconst 2, 1, 2), (23, .invokestatic 54, 3, 0), (26, .iaload, 1, 0), (27, .istore_n 3, 1, 0), (28, .aload_n 0, 1, 0), (29, .getfield 9, 3, 0), (32, .iload_n 1, 1, 0), (33, .iconst 2, 1, 2), (34, .invokestatic 54, 3, 0), (37, .iload_n 2, 1, 0), (38, .iastore, 1, 0), (39, .iload_n 3, 1, 0), (40, .ireturn, 1, 0)]
def jm_i184 : List jm_IT := [(0, .iload_n 1, 1, 0), (1, .iconst 1, 1, 1), (2, .bipush 60, 2, 60), (4, .invokestatic 46, 3, 0), (7, .ifCond .ne 5, 3, 0), (10, .iconst (-1), 1, (-1)), (11, .ireturn, 1, 0), (12, .aload_n 0, 1, 0), (13, .getfield 9, 3, 0), (16, .iload_n 1, 1, 0), (17, .invokestatic 139, 3, 0), (20, .ifCond .ne 6, 3, 0), (23, .bipush (-3), 2, (-3)), (25, .ireturn, 1, 0), (26, .aload_n 0, 1, 0), (27, .getfield 9, 3, 0), (30, .iload_n 1, 1, 0), (31, .invokestatic 142, 3, 0), (34, .aload_n 0, 1, 0), (35, .getfield 9, 3, 0), (38, .invokestatic 166, 3, 0), (41, .invokestatic 170, 3, 0), (44, .ireturn, 1, 0)]
def jm_i185 : List jm_IT := [(0, .aload_n 0, 1, 0), (1, .getfield 9, 3, 0), (4, .aload_n 0, 1, 0), (5, .getfield 13, 3, 0), (8, .invokestatic 153, 3, 0), (11, .aload_n 0, 1, 0), (12, .getfield 13, 3, 0), (15, .iload_n 1, 1, 0), (16, .invokestatic 142, 3, 0), (19, .return_, 1, 0)]
def jm_i186 : List jm_IT := [(0, .aload_n 0, 1, 0), (1, .iload_n 1, 1, 0), (2, .invokevirtual 130, 3, 0), (5, .ifCond .eq 22, 3, 0), (8, .iload_n 2, 1, 0), (9, .iconst 0, 1, 0), (10, .bipush 99, 2, 99), (12, .invokestatic 46, 3, 0), (15, .ifCond .eq 12, 3, 0), (18, .iload_n 3, 1, 0), (19, .iconst 0, 1, 0), (20, .iconst 1, 1, 1), (21, .invokestatic 46, 3, 0), (24, .ifCond .ne 5, 3, 0), (27, .iconst (-1), 1, (-1)), (28, .ireturn, 1, 0), (29, .aload_n 0, 1, 0), (30, .iload_n 2, 1, 0), (31, .invokevirtual 173, 3, 0), (34, .aload_n 0, 1, 0), (35, .getfield 13, 3, 0), (38, .iload_n 1, 1, 0), (39, .iconst 2, 1, 2), (40, .iload_n 3, 1, 0), (41, .iadd, 1, 0), (42, .invokestatic 54, 3, 0), (45, .iaload, 1, 0), (46, .ireturn, 1, 0)]
def jm_i187 : List jm_IT := [(0, .iconst 0, 1, 0), (1, .istore_n 1, 1, 0), (2, .iconst 0, 1, 0), (3, .istore_n 2, 1, 0), (4, .iload_n 2, 1, 0), (5, .bipush 16, 2, 16), (7, .if_icmp .ge 17, 3, 0), (10, .iload_n 1, 1, 0), (11, .aload_n 0, 1, 0), (12, .iconst 4, 1, 4), (13, .iload_n 2, 1, 0), (14, .iadd, 1, 0), (15, .iaload, 1, 0), (16, .iadd, 1, 0), (17, .istore_n 1, 1, 0), (18, .iinc 2 1, 3, 1), (21, .goto (-17), 3, 0), (24, .iload_n 1, 1, 0), (25, .ireturn, 1, 0)]
def jm_i188 : List jm_IT := [(0, .iload_n 1, 1, 0), (1, .iconst 0, 1, 0), (2, .bipush 99, 2, 99), (4, .invokestatic 46, 3, 0), (7, .ifCond .eq 12, 3, 0), (10, .iload_n 2, 1, 0), (11, .iconst 0, 1, 0), (12, .iconst 1, 1, 1), (13, .invokestatic 46, 3, 0), (16, .ifCond .ne 5, 3, 0), (19, .iconst (-1), 1, (-1)), (20, .ireturn, 1, 0), (21, .aload_n 0, 1, 0), (22, .iload_n 1, 1, 0), (23, .invokevirtual 173, 3, 0), (26, .iload_n 2, 1, 0), (27, .ifCond .ne 13, 3, 0), (30, .aload_n 0, 1, 0), (31, .getfield 13, 3, 0), (34, .invokestatic 166, 3, 0), (37, .goto 10, 3, 0), (40, .aload_n 0, 1, 0), (41, .getfield 13, 3, 0), (44, .invokestatic 176, 3, 0), (47, .ireturn, 1, 0)]
def jm_i189 : List jm_IT := [(0, .aload_n 0, 1, 0), (1, .iload_n 1, 1, 0), (2, .invokevirtual 130, 3, 0), (5, .ifCond .ne 5, 3, 0), (8, .iconst (-1), 1, (-1)), (9, .ireturn, 1, 0), (10, .aload_n 0, 1, 0), (11, .getfield 9, 3, 0), (14, .aload_n 0, 1, 0), (15, .getfield 13, 3, 0), (18, .invokestatic 153, 3, 0), (21, .iconst 1, 1, 1), (22, .istore_n 2, 1, 0), (23, .iload_n 2, 1, 0), (24, .bipush 99, 2, 99), (26, .if_icmp .gt 26, 3, 0), (29, .aload_n 0, 1, 0), (30, .getfield 13, 3, 0), (33, .iconst 0, 1, 0), (34, .invokestatic 96, 3, 0), (37, .iload_n 1, 1, 0), (38, .invokestatic 179, 3, 0), (41, .ifCond .eq 5, 3, 0), (44, .iload_n 2, 1, 0), (45, .ireturn, 1, 0), (46, .iinc 2 1, 3, 1), (49, .goto (-26), 3, 0), (52, .bipush (-4), 2, (-4)), (54, .ireturn, 1, 0)]
def jm_i190 : List jm_IT := [(0, .aload_n 0, 1, 0), (1, .iload_n 1, 1, 0), (2, .invokevirtual 130, 3, 0), (5, .ifCond .eq 13, 3, 0), (8, .iload_n 2, 1, 0), (9, .iconst 0, 1, 0), (10, .bipush 99, 2, 99), (12, .invokestatic 46, 3, 0), (15, .ifCond .ne 5, 3, 0), (18, .iconst (-1), 1, (-1)), (19, .ireturn, 1, 0), (20, .aload_n 0, 1, 0), (21, .getfield 9, 3, 0), (24, .aload_n 0, 1, 0), (25, .getfield 13, 3, 0), (28, .invokestatic 153, 3, 0), (31, .iconst 0, 1, 0), (32, .istore_n 3, 1, 0), (33, .iconst 0, 1, 0), (34, .istore 4, 2, 0), (36, .iload 4, 2, 0), (38, .iload_n 2, 1, 0), (39, .if_icmp .ge 32, 3, 0), (42, .iload_n 3, 1, 0), (43, .aload_n 0, 1, 0), (44, .getfield 13, 3, 0), (47, .iconst 0, 1, 0), (48, .invokestatic 96, 3, 0), (51, .iload_n 1, 1, 0), (52, .invokestatic 179, 3, 0), (55, .ifCond .eq 7, 3, 0), (58, .iconst 1, 1, 1), (59, .goto 4, 3, 0), (62, .iconst 0, 1, 0), (63, .iadd, 1, 0), (64, .istore_n 3, 1, 0), (65, .iinc 4 1, 3, 1), (68, .goto (-32), 3, 0), (71, .iload_n 3, 1, 0), (72, .ireturn, 1, 0)]
def jm_i191 : List jm_IT := [(0, .iconst 0, 1, 0), (1, .istore_n 2, 1, 0), (2, .iload_n 2, 1, 0), (3, .bipush 99, 2, 99), (5, .if_icmp .gt 34, 3, 0), (8, .aload_n 0, 1, 0), (9, .getfield 13, 3, 0), (12, .iload_n 1, 1, 0), (13, .iconst 1, 1, 1), (14, .invokestatic 69, 3, 0), (17, .iaload, 1, 0), (18, .iconst 1, 1, 1), (19, .if_icmp .ne 5, 3, 0), (22, .iload_n 2, 1, 0), (23, .ireturn, 1, 0), (24, .aload_n 0, 1, 0), (25, .getfield 13, 3, 0), (28, .iconst 0, 1, 0), (29, .invokestatic 96, 3, 0), (32, .istore_n 3, 1, 0), (33, .iinc 2 1, 3, 1), (36, .goto (-34), 3, 0), (39, .bipush (-4), 2, (-4)), (41, .ireturn, 1, 0)]
def jm_i192 : List jm_IT := [(0, .aload_n 0, 1, 0), (1, .getfield 9, 3, 0), (4, .aload_n 0, 1, 0), (5, .getfield 13, 3, 0), (8, .invokestatic 153, 3, 0), (11, .aload_n 0, 1, 0), (12, .iload_n 1, 1, 0), (13, .invokevirtual 182, 3, 0), (16, .ireturn, 1, 0)]
def jm_i193 : List jm_IT := [(0, .aload_n 0, 1, 0), (1, .iload_n 1, 1, 0), (2, .invokevirtual 133, 3, 0), (5, .ifCond .eq 11, 3, 0), (8, .aload_n 0, 1, 0), (9, .iload_n 1, 1, 0), (10, .invokevirtual 185, 3, 0), (13, .goto 4, 3, 0), (16, .iconst (-1), 1, (-1)), (17, .ireturn, 1, 0)]
def jm_i194 : List jm_IT := [(0, .bipush (-4), 2, (-4)), (2, .istore_n 1, 1, 0), (3, .ldc 188, 2, 1000000000), (5, .istore_n 2, 1, 0), (6, .iconst 0, 1, 0), (7, .istore_n 3, 1, 0), (8, .iload_n 3, 1, 0), (9, .aload_n 0, 1, 0), (10, .getfield 9, 3, 0), (13, .iconst 1, 1, 1), (14, .iaload, 1, 0), (15, .if_icmp .ge 54, 3, 0), (18, .aload_n 0, 1, 0), (19, .getfield 9, 3, 0), (22, .iload_n 3, 1, 0), (23, .iconst 1, 1, 1), (24, .invokestatic 69, 3, 0), (27, .iaload, 1, 0), (28, .iconst 1, 1, 1), (29, .if_icmp .ne 8, 3, 0), (32, .bipush (-4), 2, (-4)), (34, .goto 8, 3, 0), (37, .aload_n 0, 1, 0), (38, .iload_n 3, 1, 0), (39, .invokevirtual 185, 3, 0), (42, .istore 4, 2, 0), (44, .iload 4, 2, 0), (46, .ifCond .lt 17, 3, 0), (49, .iload 4, 2, 0), (51, .iload_n 2, 1, 0), (52, .if_icmp .lt 6, 3, 0), (55, .goto 8, 3, 0), (58, .iload_n 3, 1, 0), (59, .istore_n 1, 1, 0), (60, .iload 4, 2, 0), (62, .istore_n 2, 1, 0), (63, .iinc 3 1, 3, 1), (66, .goto (-58), 3, 0), (69, .iload_n 1, 1, 0), (70, .ireturn, 1, 0)]
def jm_i195 : List jm_IT := [(0, .bipush (-4), 2, (-4)), (2, .istore_n 3, 1, 0), (3, .ldc 188, 2, 1000000000), (5, .istore 4, 2, 0), (7, .iconst 0, 1, 0), (8, .istore 5, 2, 0), (10, .iload 5, 2, 0), (12, .aload_n 0, 1, 0), (13, .getfield 9, 3, 0), (16, .iconst 0, 1, 0), (17, .iaload, 1, 0), (18, .if_icmp .ge 59, 3, 0), (21, .aload_n 0, 1, 0), (22, .getfield 9, 3, 0), (25, .aload_n 0, 1, 0), (26, .getfield 13, 3, 0), (29, .invokestatic 153, 3, 0), (32, .aload_n 0, 1, 0), (33, .getfield 13, 3, 0), (36, .iload 5, 2, 0), (38, .iload_n 1, 1, 0), (39, .invokestatic 136, 3, 0), (42, .aload_n 0, 1, 0), (43, .iload_n 1, 1, 0), (44, .invokevirtual 182, 3, 0), (47, .istore 6, 2, 0), (49, .iload 6, 2, 0), (51, .ifCond .lt 20, 3, 0), (54, .iload 6, 2, 0), (56, .iload 4, 2, 0), (58, .if_icmp .lt 6, 3, 0), (61, .goto 10, 3, 0), (64, .iload 5, 2, 0), (66, .istore_n 3, 1, 0), (67, .iload 6, 2, 0), (69, .istore 4, 2, 0), (71, .iinc 5 1, 3, 1), (74, .goto (-64), 3, 0), (77, .iload_n 3, 1, 0), (78, .ifCond .lt 7, 3, 0), (81, .iload_n 2, 1, 0), (82, .ifCond .ne 7, 3, 0), (85, .iload_n 3, 1, 0), (86, .goto 5, 3, 0), (89, .iload 4, 2, 0), (91, .ireturn, 1, 0)]
def jm_i196 : List jm_IT := [(0, .aload_n 0, 1, 0), (1, .iload_n 1, 1, 0), (2, .invokevirtual 133, 3, 0), (5, .ifCond .eq 12, 3, 0), (8, .iload_n 2, 1, 0), (9, .iconst 0, 1, 0), (10, .iconst 1, 1, 1), (11, .invokestatic 46, 3, 0), (14, .ifCond .ne 5, 3, 0), (17, .iconst (-1), 1, (-1)), (18, .ireturn, 1, 0), (19, .aload_n 0, 1, 0), (20, .getfield 9, 3, 0), (23, .iload_n 1, 1, 0), (24, .iconst 1, 1, 1), (25, .invokestatic 69, 3, 0), (28, .iaload, 1, 0), (29, .iconst 1, 1, 1), (30, .if_icmp .ne 8, 3, 0), (33, .bipush (-3), 2, (-3)), (35, .goto 9, 3, 0), (38, .aload_n 0, 1, 0), (39, .iload_n 1, 1, 0), (40, .iload_n 2, 1, 0), (41, .invokevirtual 189, 3, 0), (44, .ireturn, 1, 0)]
def jm_i197 : List jm_IT := [(0, .aload_n 0, 1, 0), (1, .iload_n 1, 1, 0), (2, .invokevirtual 130, 3, 0), (5, .ifCond .ne 5, 3, 0), (8, .iconst (-1), 1, (-1)), (9, .ireturn, 1, 0), (10, .aload_n 0, 1, 0), (11, .getfield 9, 3, 0), (14, .aload_n 0, 1, 0), (15, .getfield 13, 3, 0), (18, .invokestatic 153, 3, 0), (21, .iconst 0, 1, 0), (22, .istore_n 2, 1, 0), (23, .iload_n 2, 1, 0), (24, .bipush 99, 2, 99), (26, .if_icmp .ge 31, 3, 0), (29, .aload_n 0, 1, 0), (30, .getfield 13, 3, 0), (33, .iload_n 1, 1, 0), (34, .invokestatic 65, 3, 0), (37, .ifCond .ne 5, 3, 0), (40, .iload_n 2, 1, 0), (41, .ireturn, 1, 0), (42, .aload_n 0, 1, 0), (43, .getfield 13, 3, 0), (46, .iconst 0, 1, 0), (47, .invokestatic 96, 3, 0), (50, .istore_n 3, 1, 0), (51, .iinc 2 1, 3, 1), (54, .goto (-31), 3, 0), (57, .bipush 99, 2, 99), (59, .ireturn, 1, 0)]
def jm_i198 : List jm_IT := [(0, .aload_n 0, 1, 0), (1, .iconst 4, 1, 4), (2, .iload_n 1, 1, 0), (3, .iadd, 1, 0), (4, .bipush 9, 2, 9), (6, .aload_n 0, 1, 0), (7, .iconst 4, 1, 4), (8, .iload_n 1, 1, 0), (9, .iadd, 1, 0), (10, .iaload, 1, 0), (11, .iload_n 2, 1, 0), (12, .iadd, 1, 0), (13, .invokestatic 78, 3, 0), (16, .iastore, 1, 0), (17, .return_, 1, 0)]
def jm_i199 : List jm_IT := [(0, .iconst 0, 1, 0), (1, .istore_n 3, 1, 0), (2, .iload_n 3, 1, 0), (3, .bipush 99, 2, 99), (5, .if_icmp .gt 35, 3, 0), (8, .aload_n 0, 1, 0), (9, .getfield 13, 3, 0), (12, .iload_n 1, 1, 0), (13, .iconst 2, 1, 2), (14, .invokestatic 54, 3, 0), (17, .iaload, 1, 0), (18, .iload_n 2, 1, 0), (19, .if_icmp .ne 5, 3, 0), (22, .iload_n 3, 1, 0), (23, .ireturn, 1, 0), (24, .aload_n 0, 1, 0), (25, .getfield 13, 3, 0), (28, .iconst 0, 1, 0), (29, .invokestatic 96, 3, 0), (32, .istore 4, 2, 0), (34, .iinc 3 1, 3, 1), (37, .goto (-35), 3, 0), (40, .bipush (-4), 2, (-4)), (42, .ireturn, 1, 0)]
def jm_i200 : List jm_IT := [(0, .aload_n 0, 1, 0), (1, .iload_n 1, 1, 0), (2, .invokevirtual 130, 3, 0), (5, .ifCond .eq 30, 3, 0), (8, .iload_n 2, 1, 0), (9, .invokestatic 118, 3, 0), (12, .ifCond .eq 23, 3, 0), (15, .iload_n 3, 1, 0), (16, .iconst 1, 1, 1), (17, .bipush 9, 2, 9), (19, .invokestatic 46, 3, 0), (22, .ifCond .eq 13, 3, 0), (25, .iload 4, 2, 0), (27, .iconst 0, 1, 0), (28, .iconst 1, 1, 1), (29, .invokestatic 46, 3, 0), (32, .ifCond .ne 5, 3, 0), (35, .iconst (-1), 1, (-1)), (36, .ireturn, 1, 0), (37, .bipush (-4), 2, (-4)), (39, .istore 5, 2, 0), (41, .ldc 188, 2, 1000000000), (43, .istore 6, 2, 0), (45, .iconst 0, 1, 0), (46, .istore 7, 2, 0), (48, .iload 7, 2, 0), (50, .bipush 16, 2, 16), (52, .if_icmp .ge 61, 3, 0), (55, .aload_n 0, 1, 0), (56, .getfield 9, 3, 0), (59, .aload_n 0, 1, 0), (60, .getfield 13, 3, 0), (63, .invokestatic 153, 3, 0), (66, .aload_n 0, 1, 0), (67, .getfield 13, 3, 0), (70, .iload 7, 2, 0), (72, .iload_n 3, 1, 0), (73, .invokestatic 192, 3, 0), (76, .aload_n 0, 1, 0), (77, .iload_n 1, 1, 0), (78, .iload_n 2, 1, 0), (79, .invokevirtual 195, 3, 0), (82, .istore 8, 2, 0), (84, .iload 8, 2, 0), (86, .ifCond .lt 21, 3, 0), (89, .iload 8, 2, 0), (91, .iload 6, 2, 0), (93, .if_icmp .lt 6, 3, 0), (96, .goto 11, 3, 0), (99, .iload 7, 2, 0), (101, .istore 5, 2, 0), (103, .iload 8, 2, 0), (105, .istore 6, 2, 0), (107, .iinc 7 1, 3, 1), (110, .goto (-62), 3, 0), (113, .iload 5, 2, 0), (115, .ifCond .lt 8, 3, 0), (118, .iload 4, 2, 0), (120, .ifCond .ne 8, 3, 0), (123, .iload 5, 2, 0), (125, .goto 5, 3, 0), (128, .iload 6, 2, 0), (130, .ireturn, 1, 0)]
def jm_i201 : List jm_IT := [(0, .iload_n 1, 1, 0), (1, .iconst 0, 1, 0), (2, .bipush 99, 2, 99), (4, .invokestatic 46, 3, 0), (7, .ifCond .eq 12, 3, 0), (10, .iload_n 2, 1, 0), (11, .iconst 0, 1, 0), (12, .iconst 2, 1, 2), (13, .invokestatic 46, 3, 0), (16, .ifCond .ne 5, 3, 0), (19, .iconst (-1), 1, (-1)), (20, .ireturn, 1, 0), (21, .aload_n 0, 1, 0), (22, .getfield 9, 3, 0), (25, .aload_n 0, 1, 0), (26, .getfield 13, 3, 0), (29, .invokestatic 153, 3, 0), (32, .iconst 0, 1, 0), (33, .istore_n 3, 1, 0), (34, .bipush (-4), 2, (-4)), (36, .istore 4, 2, 0), (38, .iconst 1, 1, 1), (39, .istore 5, 2, 0), (41, .iload 5, 2, 0), (43, .iload_n 1, 1, 0), (44, .if_icmp .gt 41, 3, 0), (47, .aload_n 0, 1, 0), (48, .getfield 13, 3, 0), (51, .iconst 0, 1, 0), (52, .invokestatic 96, 3, 0), (55, .istore 6, 2, 0), (57, .iload 6, 2, 0), (59, .invokestatic 170, 3, 0), (62, .iload_n 3, 1, 0), (63, .invokestatic 170, 3, 0), (66, .if_icmp .gt 6, 3, 0), (69, .goto 10, 3, 0), (72, .iload 6, 2, 0), (74, .istore_n 3, 1, 0), (75, .iload 5, 2, 0), (77, .istore 4, 2, 0), (79, .iinc 5 1, 3, 1), (82, .goto (-41), 3, 0), (85, .iload_n 2, 1, 0), (86, .ifCond .ne 7, 3, 0), (89, .iload_n 3, 1, 0), (90, .goto 17, 3, 0), (93, .iload_n 2, 1, 0), (94, .iconst 1, 1, 1), (95, .if_icmp .ne 10, 3, 0), (98, .iload_n 3, 1, 0), (99, .invokestatic 170, 3, 0), (102, .goto 5, 3, 0), (105, .iload 4, 2, 0), (107, .ireturn, 1, 0)]
def jm_i202 : List jm_IT := [(0, .iconst 0, 1, 0), (1, .istore_n 1, 1, 0), (2, .iconst 0, 1, 0), (3, .istore_n 2, 1, 0), (4, .iload_n 2, 1, 0), (5, .aload_n 0, 1, 0), (6, .getfield 9, 3, 0), (9, .iconst 1, 1, 1), (10, .iaload, 1, 0), (11, .if_icmp .ge 39, 3, 0), (14, .iload_n 1, 1, 0), (15, .aload_n 0, 1, 0), (16, .getfield 9, 3, 0), (19, .iload_n 2, 1, 0), (20, .iconst 1, 1, 1), (21, .invokestatic 69, 3, 0), (24, .iaload, 1, 0), (25, .ifCond .ne 16, 3, 0), (28, .aload_n 0, 1, 0), (29, .iload_n 2, 1, 0), (30, .iconst 0, 1, 0), (31, .invokevirtual 189, 3, 0), (34, .ifCond .lt 7, 3, 0), (37, .iconst 1, 1, 1), (38, .goto 4, 3, 0), (41, .iconst 0, 1, 0), (42, .iadd, 1, 0), (43, .istore_n 1, 1, 0), (44, .iinc 2 1, 3, 1), (47, .goto (-43), 3, 0), (50, .iload_n 1, 1, 0), (51, .ireturn, 1, 0)]
def jm_i203 : List jm_IT := [(0, .iload_n 1, 1, 0), (1, .iconst 0, 1, 0), (2, .bipush 99, 2, 99), (4, .invokestatic 46, 3, 0), (7, .ifCond .ne 5, 3, 0), (10, .iconst (-1), 1, (-1)), (11, .ireturn, 1, 0), (12, .aload_n 0, 1, 0), (13, .getfield 9, 3, 0), (16, .aload_n 0, 1, 0), (17, .getfield 13, 3, 0), (20, .invokestatic 153, 3, 0), (23, .ldc 198, 2, 65535), (25, .istore_n 2, 1, 0), (26, .iconst 0, 1, 0), (27, .istore_n 3, 1, 0), (28, .iload_n 3, 1, 0), (29, .iload_n 1, 1, 0), (30, .if_icmp .gt 57, 3, 0), (33, .iconst 0, 1, 0), (34, .istore 4, 2, 0), (36, .iload 4, 2, 0), (38, .aload_n 0, 1, 0), (39, .getfield 13, 3, 0), (42, .iconst 0, 1, 0), (43, .iaload, 1, 0), (44, .if_icmp .ge 27, 3, 0), (47, .iload_n 2, 1, 0), (48, .iconst 1, 1, 1), (49, .aload_n 0, 1, 0), (50, .getfield 13, 3, 0), (53, .iload 4, 2, 0), (55, .iconst 2, 1, 2), (56, .invokestatic 54, 3, 0), (59, .iaload, 1, 0), (60, .ishl, 1, 0), (61, .iconst (-1), 1, (-1)), (62, .ixor, 1, 0), (63, .iand, 1, 0), (64, .istore_n 2, 1, 0), (65, .iinc 4 1, 3, 1), (68, .goto (-32), 3, 0), (71, .aload_n 0, 1, 0), (72, .getfield 13, 3, 0), (75, .iconst 0, 1, 0), (76, .invokestatic 96, 3, 0), (79, .istore 4, 2, 0), (81, .iinc 3 1, 3, 1), (84, .goto (-56), 3, 0), (87, .iload_n 2, 1, 0), (88, .ireturn, 1, 0)]
def jm_i204 : List jm_IT := [(0, .aload_n 0, 1, 0), (1, .iload_n 1, 1, 0), (2, .invokevirtual 130, 3, 0), (5, .ifCond .eq 16, 3, 0), (8, .aload_n 0, 1, 0), (9, .iload_n 2, 1, 0), (10, .invokevirtual 130, 3, 0), (13, .ifCond .eq 8, 3, 0), (16, .iload_n 1, 1, 0), (17, .iload_n 2, 1, 0), (18, .if_icmp .ne 5, 3, 0), (21, .iconst (-1), 1, (-1)), (22, .ireturn, 1, 0), (23, .aload_n 0, 1, 0), (24, .getfield 9, 3, 0), (27, .aload_n 0, 1, 0), (28, .getfield 13, 3, 0), (31, .invokestatic 153, 3, 0), (34, .iconst 0, 1, 0), (35, .istore_n 3, 1, 0), (36, .iload_n 3, 1, 0), (37, .bipush 99, 2, 99), (39, .if_icmp .gt 44, 3, 0), (42, .aload_n 0, 1, 0), (43, .getfield 13, 3, 0), (46, .iload_n 1, 1, 0), (47, .iconst 2, 1, 2), (48, .invokestatic 54, 3, 0), (51, .iaload, 1, 0), (52, .aload_n 0, 1, 0), (53, .getfield 13, 3, 0), (56, .iload_n 2, 1, 0), (57, .iconst 2, 1, 2), (58, .invokestatic 54, 3, 0), (61, .iaload, 1, 0), (62, .if_icmp .ne 5, 3, 0), (65, .iload_n 3, 1, 0), (66, .ireturn, 1, 0), (67, .aload_n 0, 1, 0), (68, .getfield 13, 3, 0), (71, .iconst 0, 1, 0), (72, .invokestatic 96, 3, 0), (75, .istore 4, 2, 0), (77, .iinc 3 1, 3, 1), (80, .goto (-44), 3, 0), (83, .bipush (-4), 2, (-4)), (85, .ireturn, 1, 0)]
def jm_i205 : List jm_IT := [(0, .iload_n 1, 1, 0), (1, .iconst 0, 1, 0), (2, .bipush 99, 2, 99), (4, .invokestatic 46, 3, 0), (7, .ifCond .ne 5, 3, 0), (10, .iconst (-1), 1, (-1)), (11, .ireturn, 1, 0), (12, .aload_n 0, 1, 0), (13, .iload_n 1, 1, 0), (14, .invokevirtual 173, 3, 0), (17, .aload_n 0, 1, 0), (18, .getfield 13, 3, 0), (21, .invokestatic 166, 3, 0), (24, .invokestatic 170, 3, 0), (27, .istore_n 2, 1, 0), (28, .bipush (-4), 2, (-4)), (30, .istore_n 3, 1, 0), (31, .iconst 0, 1, 0), (32, .istore 4, 2, 0), (34, .iload 4, 2, 0), (36, .aload_n 0, 1, 0), (37, .getfield 9, 3, 0), (40, .iconst 0, 1, 0), (41, .iaload, 1, 0), (42, .if_icmp .ge 71, 3, 0), (45, .aload_n 0, 1, 0), (46, .getfield 9, 3, 0), (49, .aload_n 0, 1, 0), (50, .getfield 13, 3, 0), (53, .invokestatic 153, 3, 0), (56, .aload_n 0, 1, 0), (57, .getfield 13, 3, 0), (60, .iload 4, 2, 0), (62, .iconst 3, 1, 3), (63, .invokestatic 54, 3, 0), (66, .iconst 0, 1, 0), (67, .iastore, 1, 0), (68, .aload_n 0, 1, 0), (69, .getfield 13, 3, 0), (72, .iload_n 1, 1, 0), (73, .invokestatic 142, 3, 0), (76, .aload_n 0, 1, 0), (77, .getfield 13, 3, 0), (80, .invokestatic 166, 3, 0), (83, .invokestatic 170, 3, 0), (86, .iload_n 2, 1, 0), (87, .if_icmp .gt 6, 3, 0), (90, .goto 17, 3, 0), (93, .iload 4, 2, 0), (95, .istore_n 3, 1, 0), (96, .aload_n 0, 1, 0), (97, .getfield 13, 3, 0), (100, .invokestatic 166, 3, 0), (103, .invokestatic 170, 3, 0), (106, .istore_n 2, 1, 0), (107, .iinc 4 1, 3, 1), (110, .goto (-76), 3, 0), (113, .iload_n 3, 1, 0), (114, .ireturn, 1, 0)]
def jm_i206 : List jm_IT := [(0, .aload_n 0, 1, 0), (1, .iload_n 1, 1, 0), (2, .invokevirtual 130, 3, 0), (5, .ifCond .eq 20, 3, 0), (8, .iload_n 2, 1, 0), (9, .invokestatic 118, 3, 0), (12, .ifCond .eq 13, 3, 0), (15, .iload_n 3, 1, 0), (16, .iconst 0, 1, 0), (17, .bipush 99, 2, 99), (19, .invokestatic 46, 3, 0), (22, .ifCond .ne 5, 3, 0), (25, .iconst (-1), 1, (-1)), (26, .ireturn, 1, 0), (27, .aload_n 0, 1, 0), (28, .iload_n 3, 1, 0), (29, .invokevirtual 173, 3, 0), (32, .aload_n 0, 1, 0), (33, .getfield 13, 3, 0), (36, .iload_n 1, 1, 0), (37, .iconst 2, 1, 2), (38, .invokestatic 54, 3, 0), (41, .iaload, 1, 0), (42, .istore 4, 2, 0), (44, .iconst 1, 1, 1), (45, .istore 5, 2, 0), (47, .iload 5, 2, 0), (49, .bipush 10, 2, 10), (51, .if_icmp .ge 56, 3, 0), (54, .aload_n 0, 1, 0), (55, .getfield 9, 3, 0), (58, .aload_n 0, 1, 0), (59, .getfield 13, 3, 0), (62, .invokestatic 153, 3, 0), (65, .aload_n 0, 1, 0), (66, .getfield 13, 3, 0), (69, .iload_n 2, 1, 0), (70, .iload 5, 2, 0), (72, .invokestatic 192, 3, 0), (75, .aload_n 0, 1, 0), (76, .getfield 13, 3, 0), (79, .iload_n 3, 1, 0), (80, .invokestatic 142, 3, 0), (83, .aload_n 0, 1, 0), (84, .getfield 13, 3, 0), (87, .iload_n 1, 1, 0), (88, .iconst 2, 1, 2), (89, .invokestatic 54, 3, 0), (92, .iaload, 1, 0), (93, .iload 4, 2, 0), (95, .if_icmp .eq 6, 3, 0), (98, .iload 5, 2, 0), (100, .ireturn, 1, 0), (101, .iinc 5 1, 3, 1), (104, .goto (-57), 3, 0), (107, .bipush (-4), 2, (-4)), (109, .ireturn, 1, 0)]
def jm_i207 : List jm_IT := [(0, .iload_n 1, 1, 0), (1, .iconst 0, 1, 0), (2, .bipush 99, 2, 99), (4, .invokestatic 46, 3, 0), (7, .ifCond .eq 12, 3, 0), (10, .iload_n 2, 1, 0), (11, .iconst 0, 1, 0), (12, .iconst 1, 1, 1), (13, .invokestatic 46, 3, 0), (16, .ifCond .ne 5, 3, 0), (19, .iconst (-1), 1, (-1)), (20, .ireturn, 1, 0), (21, .iconst 0, 1, 0), (22, .istore_n 3, 1, 0), (23, .iload_n 3, 1, 0), (24, .bipush 16, 2, 16), (26, .if_icmp .ge 16, 3, 0), (29, .aload_n 0, 1, 0), (30, .getfield 25, 3, 0), (33, .iload_n 3, 1, 0), (34, .iconst 0, 1, 0), (35, .iastore, 1, 0), (36, .iinc 3 1, 3, 1), (39, .goto (-16), 3, 0), (42, .aload_n 0, 1, 0), (43, .getfield 9, 3, 0), (46, .aload_n 0, 1, 0), (47, .getfield 13, 3, 0), (50, .invokestatic 153, 3, 0), (53, .iconst 0, 1, 0), (54, .istore_n 3, 1, 0), (55, .iload_n 3, 1, 0), (56, .iload_n 1, 1, 0), (57, .if_icmp .ge 59, 3, 0), (60, .aload_n 0, 1, 0), (61, .getfield 13, 3, 0), (64, .iconst 0, 1, 0), (65, .invokestatic 96, 3, 0), (68, .istore 4, 2, 0), (70, .iconst 0, 1, 0), (71, .istore 5, 2, 0), (73, .iload 5, 2, 0), (75, .aload_n 0, 1, 0), (76, .getfield 13, 3, 0), (79, .iconst 0, 1, 0), (80, .iaload, 1, 0), (81, .if_icmp .ge 29, 3, 0), (84, .aload_n 0, 1, 0), (85, .getfield 25, 3, 0), (88, .aload_n 0, 1, 0), (89, .getfield 13, 3, 0), (92, .iload 5, 2, 0), (94, .iconst 2, 1, 2), (95, .invokestatic 54, 3, 0), (98, .iaload, 1, 0), (99, .dup2, 1, 0), (100, .iaload, 1, 0), (101, .iconst 1, 1, 1), (102, .iadd, 1, 0), (103, .iastore, 1, 0), (104, .iinc 5 1, 3, 1), (107, .goto (-34), 3, 0), (110, .iinc 3 1, 3, 1), (113, .goto (-58), 3, 0), (116, .iconst 0, 1, 0), (117, .istore_n 3, 1, 0), (118, .iconst 0, 1, 0), (119, .istore 4, 2, 0), (121, .iload 4, 2, 0), (123, .bipush 16, 2, 16), (125, .if_icmp .ge 28, 3, 0), (128, .aload_n 0, 1, 0), (129, .getfield 25, 3, 0), (132, .iload 4, 2, 0), (134, .iaload, 1, 0), (135, .aload_n 0, 1, 0), (136, .getfield 25, 3, 0), (139, .iload_n 3, 1, 0), (140, .iaload, 1, 0), (141, .if_icmp .le 6, 3, 0), (144, .iload 4, 2, 0), (146, .istore_n 3, 1, 0), (147, .iinc 4 1, 3, 1), (150, .goto (-29), 3, 0), (153, .iload_n 2, 1, 0), (154, .ifCond .ne 7, 3, 0), (157, .iload_n 3, 1, 0), (158, .goto 9, 3, 0), (161, .aload_n 0, 1, 0), (162, .getfield 25, 3, 0), (165, .iload_n 3, 1, 0), (166, .iaload, 1, 0), (167, .ireturn, 1, 0)]
def jm_i208 : List jm_IT := [(0, .aload_n 0, 1, 0), (1, .getfield 9, 3, 0), (4, .iload_n 1, 1, 0), (5, .iconst 2, 1, 2), (6, .invokestatic 54, 3, 0), (9, .iaload, 1, 0), (10, .istore_n 2, 1, 0), (11, .iload_n 2, 1, 0), (12, .bipush 8, 2, 8), (14, .if_icmp .ge 10, 3, 0), (17, .bipush 7, 2, 7), (19, .iload_n 2, 1, 0), (20, .isub, 1, 0), (21, .goto 7, 3, 0), (24, .iload_n 2, 1, 0), (25, .bipush 8, 2, 8), (27, .isub, 1, 0), (28, .ireturn, 1, 0)]
def jm_i209 : List jm_IT := [(0, .iload_n 1, 1, 0), (1, .iconst 0, 1, 0), (2, .iconst 1, 1, 1), (3, .invokestatic 46, 3, 0), (6, .ifCond .ne 5, 3, 0), (9, .iconst (-1), 1, (-1)), (10, .ireturn, 1, 0), (11, .bipush (-4), 2, (-4)), (13, .istore_n 2, 1, 0), (14, .iconst 0, 1, 0), (15, .istore_n 3, 1, 0), (16, .iload_n 3, 1, 0), (17, .aload_n 0, 1, 0), (18, .getfield 9, 3, 0), (21, .iconst 0, 1, 0), (22, .iaload, 1, 0), (23, .if_icmp .ge 28, 3, 0), (26, .iload_n 2, 1, 0), (27, .ifCond .lt 16, 3, 0), (30, .aload_n 0, 1, 0), (31, .iload_n 3, 1, 0), (32, .invokevirtual 199, 3, 0), (35, .aload_n 0, 1, 0), (36, .iload_n 2, 1, 0), (37, .invokevirtual 199, 3, 0), (40, .if_icmp .ge 5, 3, 0), (43, .iload_n 3, 1, 0), (44, .istore_n 2, 1, 0), (45, .iinc 3 1, 3, 1), (48, .goto (-32), 3, 0), (51, .iload_n 2, 1, 0), (52, .ifCond .lt 7, 3, 0), (55, .iload_n 1, 1, 0), (56, .ifCond .ne 7, 3, 0), (59, .iload_n 2, 1, 0), (60, .goto 8, 3, 0), (63, .aload_n 0, 1, 0), (64, .iload_n 2, 1, 0), (65, .invokevirtual 199, 3, 0), (68, .ireturn, 1, 0)]
def jm_i210 : List jm_IT := [(0, .iload_n 0, 1, 0), (1, .ifCond .ne 8, 3, 0), (4, .bipush (-128), 2, (-128)), (6, .goto 16, 3, 0), (9, .iload_n 0, 1, 0), (10, .iconst 1, 1, 1), (11, .if_icmp .ne 9, 3, 0), (14, .sipush (-32768), 3, (-32768)), (17, .goto 5, 3, 0), (20, .ldc 202, 2, (-2147483648)), (22, .ireturn, 1, 0)]
def jm_i211 : List jm_IT := [(0, .aload_n 0, 1, 0), (1, .iload_n 2, 1, 0), (2, .invokevirtual 130, 3, 0), (5, .ifCond .eq 12, 3, 0), (8, .iload_n 3, 1, 0), (9, .iconst 0, 1, 0), (10, .iconst 2, 1, 2), (11, .invokestatic 46, 3, 0), (14, .ifCond .ne 5, 3, 0), (17, .iconst (-1), 1, (-1)), (18, .ireturn, 1, 0), (19, .aload_n 0, 1, 0), (20, .iload_n 1, 1, 0), (21, .iconst (-1), 1, (-1)), (22, .invokevirtual 146, 3, 0), (25, .istore 4, 2, 0), (27, .iload 4, 2, 0), (29, .ifCond .eq 6, 3, 0), (32, .iload 4, 2, 0), (34, .ireturn, 1, 0), (35, .iconst 0, 1, 0), (36, .istore 5, 2, 0), (38, .iconst 0, 1, 0), (39, .istore 6, 2, 0), (41, .iload 6, 2, 0), (43, .iload_n 3, 1, 0), (44, .ifCond .ne 8, 3, 0), (47, .bipush 8, 2, 8), (49, .goto 15, 3, 0), (52, .iload_n 3, 1, 0), (53, .iconst 1, 1, 1), (54, .if_icmp .ne 8, 3, 0), (57, .bipush 10, 2, 10), (59, .goto 5, 3, 0), (62, .bipush 16, 2, 16), (64, .if_icmp .ge 136, 3, 0), (67, .iconst 1, 1, 1), (68, .istore 7, 2, 0), (70, .aload_n 0, 1, 0), (71, .getfield 9, 3, 0), (74, .aload_n 0, 1, 0), (75, .getfield 13, 3, 0), (78, .invokestatic 153, 3, 0), (81, .aload_n 0, 1, 0), (82, .getfield 13, 3, 0), (85, .iload_n 2, 1, 0), (86, .iload_n 3, 1, 0), (87, .invokestatic 54, 3, 0), (90, .iload 6, 2, 0), (92, .iastore, 1, 0), (93, .iconst 0, 1, 0), (94, .istore 8, 2, 0), (96, .iload 8, 2, 0), (98, .aload_n 0, 1, 0), (99, .getfield 40, 3, 0), (102, .iload_n 1, 1, 0), (103, .iaload, 1, 0), (104, .if_icmp .ge 72, 3, 0), (107, .aload_n 0, 1, 0), (108, .getfield 43, 3, 0), (111, .bipush 100, 2, 100), (113, .iload_n 1, 1, 0), (114, .imul, 1, 0), (115, .iload 8, 2, 0), (117, .iadd, 1, 0), (118, .iaload, 1, 0), (119, .istore 9, 2, 0), (121, .iload 7, 2, 0), (123, .iload 9, 2, 0), (125, .aload_n 0, 1, 0), (126, .getfield 37, 3, 0), (129, .iload_n 1, 1, 0), (130, .iaload, 1, 0), (131, .invokestatic 203, 3, 0), (134, .if_icmp .eq 18, 3, 0), (137, .iload 9, 2, 0), (139, .aload_n 0, 1, 0), (140, .getfield 13, 3, 0), (143, .iload_n 2, 1, 0), (144, .iconst 2, 1, 2), (145, .invokestatic 54, 3, 0), (148, .iaload, 1, 0), (149, .if_icmp .ne 7, 3, 0), (152, .iconst 1, 1, 1), (153, .goto 4, 3, 0), (156, .iconst 0, 1, 0), (157, .iand, 1, 0), (158, .istore 7, 2, 0), (160, .aload_n 0, 1, 0), (161, .getfield 13, 3, 0), (164, .iconst 0, 1, 0), (165, .invokestatic 96, 3, 0), (168, .istore 10, 2, 0), (170, .iinc 8 1, 3, 1), (173, .goto (-77), 3, 0), (176, .iload 5, 2, 0), (178, .iload 7, 2, 0), (180, .ifCond .eq 10, 3, 0), (183, .iconst 1, 1, 1), (184, .iload 6, 2, 0), (186, .ishl, 1, 0), (187, .goto 4, 3, 0), (190, .iconst 0, 1, 0), (191, .ior, 1, 0), (192, .istore 5, 2, 0), (194, .iinc 6 1, 3, 1), (197, .goto (-156), 3, 0), (200, .iload 5, 2, 0), (202, .ireturn, 1, 0)]
def jm_i212 : List jm_IT := [(0, .iconst 0, 1, 0), (1, .istore_n 3, 1, 0), (2, .iconst 0, 1, 0), (3, .istore 4, 2, 0), (5, .iload 4, 2, 0), (7, .aload_n 1, 1, 0), (8, .iconst 0, 1, 0), (9, .iaload, 1, 0), (10, .if_icmp .ge 32, 3, 0), (13, .iload_n 3, 1, 0), (14, .aload_n 1, 1, 0), (15, .iload 4, 2, 0), (17, .iconst 2, 1, 2), (18, .invokestatic 54, 3, 0), (21, .iaload, 1, 0), (22, .invokestatic 85, 3, 0), (25, .iload_n 2, 1, 0), (26, .if_icmp .ne 7, 3, 0), (29, .iconst 1, 1, 1), (30, .goto 4, 3, 0), (33, .iconst 0, 1, 0), (34, .iadd, 1, 0), (35, .istore_n 3, 1, 0), (36, .iinc 4 1, 3, 1), (39, .goto (-34), 3, 0), (42, .iload_n 3, 1, 0), (43, .ireturn, 1, 0)]
def jm_i213 : List jm_IT := [(0, .aload_n 0, 1, 0), (1, .getfield 9, 3, 0), (4, .aload_n 0, 1, 0), (5, .getfield 13, 3, 0), (8, .invokestatic 153, 3, 0), (11, .iload_n 2, 1, 0), (12, .iconst 1, 1, 1), (13, .if_icmp .ne 13, 3, 0), (16, .aload_n 0, 1, 0), (17, .getfield 13, 3, 0), (20, .bipush 7, 2, 7), (22, .iconst 3, 1, 3), (23, .invokestatic 192, 3, 0), (26, .iload_n 3, 1, 0), (27, .iconst 1, 1, 1), (28, .if_icmp .ne 13, 3, 0), (31, .aload_n 0, 1, 0), (32, .getfield 13, 3, 0), (35, .bipush 8, 2, 8), (37, .iconst 3, 1, 3), (38, .invokestatic 192, 3, 0), (41, .aload_n 0, 1, 0), (42, .getfield 13, 3, 0), (45, .iload 4, 2, 0), (47, .invokestatic 142, 3, 0), (50, .aload_n 0, 1, 0), (51, .aload_n 0, 1, 0), (52, .getfield 13, 3, 0), (55, .iload_n 1, 1, 0), (56, .invokevirtual 206, 3, 0), (59, .ireturn, 1, 0)]
def jm_i214 : List jm_IT := [(0, .iload_n 1, 1, 0), (1, .iconst 1, 1, 1), (2, .bipush 24, 2, 24), (4, .invokestatic 46, 3, 0), (7, .ifCond .ne 5, 3, 0), (10, .iconst (-1), 1, (-1)), (11, .ireturn, 1, 0), (12, .iconst 0, 1, 0), (13, .istore_n 2, 1, 0), (14, .iload_n 2, 1, 0), (15, .iconst 4, 1, 4), (16, .if_icmp .ge 72, 3, 0), (19, .iload_n 2, 1, 0), (20, .iconst 2, 1, 2), (21, .idiv, 1, 0), (22, .istore_n 3, 1, 0), (23, .iload_n 2, 1, 0), (24, .iconst 2, 1, 2), (25, .irem, 1, 0), (26, .istore 4, 2, 0), (28, .aload_n 0, 1, 0), (29, .iconst 0, 1, 0), (30, .iconst 1, 1, 1), (31, .iload_n 3, 1, 0), (32, .isub, 1, 0), (33, .iload 4, 2, 0), (35, .iload_n 1, 1, 0), (36, .invokevirtual 209, 3, 0), (39, .aload_n 0, 1, 0), (40, .iconst 0, 1, 0), (41, .iload_n 3, 1, 0), (42, .iload 4, 2, 0), (44, .iload_n 1, 1, 0), (45, .invokevirtual 209, 3, 0), (48, .if_icmp .gt 34, 3, 0), (51, .aload_n 0, 1, 0), (52, .iconst 1, 1, 1), (53, .iload_n 3, 1, 0), (54, .iconst 1, 1, 1), (55, .iload 4, 2, 0), (57, .isub, 1, 0), (58, .iload_n 1, 1, 0), (59, .invokevirtual 209, 3, 0), (62, .aload_n 0, 1, 0), (63, .iconst 1, 1, 1), (64, .iload_n 3, 1, 0), (65, .iload 4, 2, 0), (67, .iload_n 1, 1, 0), (68, .invokevirtual 209, 3, 0), (71, .if_icmp .gt 11, 3, 0), (74, .bipush 10, 2, 10), (76, .iload_n 3, 1, 0), (77, .imul, 1, 0), (78, .iload 4, 2, 0), (80, .iadd, 1, 0), (81, .ireturn, 1, 0), (82, .iinc 2 1, 3, 1), (85, .goto (-71), 3, 0), (88, .bipush (-4), 2, (-4)), (90, .ireturn, 1, 0)]
def jm_i215 : List jm_IT := [(0, .lload_n 0, 1, 0), (1, .lstore 4, 2, 0), (3, .lload_n 2, 1, 0), (4, .lstore 6, 2, 0), (6, .lload 6, 2, 0), (8, .lconst 0, 1, 0), (9, .lcmp, 1, 0), (10, .ifCond .eq 21, 3, 0), (13, .lload 4, 2, 0), (15, .lload 6, 2, 0), (17, .lrem, 1, 0), (18, .lstore 8, 2, 0), (20, .lload 6, 2, 0), (22, .lstore 4, 2, 0), (24, .lload 8, 2, 0), (26, .lstore 6, 2, 0), (28, .goto (-22), 3, 0), (31, .lload 4, 2, 0), (33, .lreturn, 1, 0)]
def jm_i216 : List jm_IT := [(0, .lload_n 0, 1, 0), (1, .lconst 0, 1, 0), (2, .lcmp, 1, 0), (3, .ifCond .ne 7, 3, 0), (6, .iload 4, 2, 0), (8, .i2l, 1, 0), (9, .lreturn, 1, 0), (10, .iload 4, 2, 0), (12, .ifCond .ne 7, 3, 0), (15, .lload_n 0, 1, 0), (16, .goto 4, 3, 0), (19, .lload_n 2, 1, 0), (20, .lload_n 0, 1, 0), (21, .lload_n 2, 1, 0), (22, .invokestatic 213, 3, 0), (25, .ldiv, 1, 0), (26, .lreturn, 1, 0)]
def jm_i217 : List jm_IT := [(0, .aload_n 0, 1, 0), (1, .iload_n 1, 1, 0), (2, .invokevirtual 130, 3, 0), (5, .ifCond .eq 43, 3, 0), (8, .iload_n 2, 1, 0), (9, .iconst 0, 1, 0), (10, .iconst 1, 1, 1), (11, .invokestatic 46, 3, 0), (14, .ifCond .eq 34, 3, 0), (17, .iload_n 3, 1, 0), (18, .iconst 0, 1, 0), (19, .bipush 7, 2, 7), (21, .invokestatic 46, 3, 0), (24, .ifCond .eq 24, 3, 0), (27, .iload 4, 2, 0), (29, .iconst 2, 1, 2), (30, .bipush 20, 2, 20), (32, .invokestatic 46, 3, 0), (35, .ifCond .eq 13, 3, 0), (38, .iload 5, 2, 0), (40, .iconst 0, 1, 0), (41, .iconst 1, 1, 1), (42, .invokestatic 46, 3, 0), (45, .ifCond .ne 7, 3, 0), (48, .ldc2_w 217, 3, 0), (51, .lreturn, 1, 0), (52, .lconst 0, 1, 0), (53, .lstore 6, 2, 0), (55, .lconst 1, 1, 0), (56, .lstore 8, 2, 0), (58, .iconst 0, 1, 0), (59, .istore 10, 2, 0), (61, .iload 10, 2, 0), (63, .iload_n 3, 1, 0), (64, .if_icmp .ge 17, 3, 0), (67, .lload 8, 2, 0), (69, .iload 4, 2, 0), (71, .i2l, 1, 0), (72, .lmul, 1, 0), (73, .lstore 8, 2, 0), (75, .iinc 10 1, 3, 1), (78, .goto (-17), 3, 0), (81, .iconst 0, 1, 0), (82, .istore 10, 2, 0), (84, .iload 10, 2, 0), (86, .iconst 1, 1, 1), (87, .iload_n 3, 1, 0), (88, .ishl, 1, 0), (89, .if_icmp .ge 106, 3, 0), (92, .lconst 1, 1, 0), (93, .lstore 11, 2, 0), (95, .aload_n 0, 1, 0), (96, .getfield 9, 3, 0), (99, .aload_n 0, 1, 0), (100, .getfield 13, 3, 0), (103, .invokestatic 153, 3, 0), (106, .iconst 0, 1, 0), (107, .istore 13, 2, 0), (109, .iload 13, 2, 0), (111, .iload_n 3, 1, 0), (112, .if_icmp .ge 49, 3, 0), (115, .lload 11, 2, 0), (117, .iload 10, 2, 0), (119, .iload 13, 2, 0), (121, .invokestatic 179, 3, 0), (124, .ifCond .eq 7, 3, 0), (127, .lconst 1, 1, 0), (128, .goto 8, 3, 0), (131, .iload 4, 2, 0), (133, .iconst 1, 1, 1), (134, .isub, 1, 0), (135, .i2l, 1, 0), (136, .lmul, 1, 0), (137, .lstore 11, 2, 0), (139, .aload_n 0, 1, 0), (140, .getfield 13, 3, 0), (143, .iload 10, 2, 0), (145, .iload 13, 2, 0), (147, .invokestatic 179, 3, 0), (150, .invokestatic 96, 3, 0), (153, .istore 14, 2, 0), (155, .iinc 13 1, 3, 1), (158, .goto (-49), 3, 0), (161, .lload 6, 2, 0), (163, .aload_n 0, 1, 0), (164, .getfield 13, 3, 0), (167, .iload_n 1, 1, 0), (168, .iconst 2, 1, 2), (169, .invokestatic 54, 3, 0), (172, .iaload, 1, 0), (173, .invokestatic 85, 3, 0), (176, .iload_n 2, 1, 0), (177, .if_icmp .ne 8, 3, 0), (180, .lload 11, 2, 0), (182, .goto 4, 3, 0), (185, .lconst 0, 1, 0), (186, .ladd, 1, 0), (187, .lstore 6, 2, 0), (189, .iinc 10 1, 3, 1), (192, .goto (-108), 3, 0), (195, .lload 6, 2, 0), (197, .lload 8, 2, 0), (199, .iload 5, 2, 0), (201, .invokestatic 219, 3, 0), (204, .lreturn, 1, 0)]
def jm_i218 : List jm_IT := [(0, .iload_n 1, 1, 0), (1, .iconst 0, 1, 0), (2, .iconst 1, 1, 1), (3, .invokestatic 46, 3, 0), (6, .ifCond .ne 7, 3, 0), (9, .ldc2_w 217, 3, 0), (12, .lreturn, 1, 0), (13, .lconst 0, 1, 0), (14, .lstore_n 2, 1, 0), (15, .iconst 0, 1, 0), (16, .istore 4, 2, 0), (18, .iload 4, 2, 0), (20, .aload_n 0, 1, 0), (21, .getfield 9, 3, 0), (24, .iconst 0, 1, 0), (25, .iaload, 1, 0), (26, .if_icmp .ge 24, 3, 0), (29, .lload_n 2, 1, 0), (30, .aload_n 0, 1, 0), (31, .getfield 9, 3, 0), (34, .iload 4, 2, 0), (36, .iconst 2, 1, 2), (37, .invokestatic 54, 3, 0), (40, .iaload, 1, 0), (41, .i2l, 1, 0), (42, .ladd, 1, 0), (43, .lstore_n 2, 1, 0), (44, .iinc 4 1, 3, 1), (47, .goto (-29), 3, 0), (50, .lload_n 2, 1, 0), (51, .aload_n 0, 1, 0), (52, .getfield 9, 3, 0), (55, .iconst 0, 1, 0), (56, .iaload, 1, 0), (57, .i2l, 1, 0), (58, .iload_n 1, 1, 0), (59, .invokestatic 219, 3, 0), (62, .lreturn, 1, 0)]
def jm_i219 : List jm_IT := [(0, .aload_n 0, 1, 0), (1, .iload_n 2, 1, 0), (2, .invokevirtual 130, 3, 0), (5, .ifCond .ne 5, 3, 0), (8, .iconst (-1), 1, (-1)), (9, .ireturn, 1, 0), (10, .aload_n 0, 1, 0), (11, .iload_n 1, 1, 0), (12, .iconst (-1), 1, (-1)), (13, .invokevirtual 146, 3, 0), (16, .istore_n 3, 1, 0), (17, .iload_n 3, 1, 0), (18, .ifCond .eq 5, 3, 0), (21, .iload_n 3, 1, 0), (22, .ireturn, 1, 0), (23, .iconst 0, 1, 0), (24, .istore 4, 2, 0), (26, .iload 4, 2, 0), (28, .aload_n 0, 1, 0), (29, .getfield 40, 3, 0), (32, .iload_n 1, 1, 0), (33, .iaload, 1, 0), (34, .if_icmp .ge 83, 3, 0), (37, .aload_n 0, 1, 0), (38, .getfield 43, 3, 0), (41, .bipush 100, 2, 100), (43, .iload_n 1, 1, 0), (44, .imul, 1, 0), (45, .iload 4, 2, 0), (47, .iadd, 1, 0), (48, .iaload, 1, 0), (49, .istore 5, 2, 0), (51, .iload 5, 2, 0), (53, .invokestatic 118, 3, 0), (56, .ifCond .eq 52, 3, 0), (59, .iload 4, 2, 0), (61, .ifCond .le 50, 3, 0), (64, .iload 5, 2, 0), (66, .aload_n 0, 1, 0), (67, .getfield 43, 3, 0), (70, .bipush 100, 2, 100), (72, .iload_n 1, 1, 0), (73, .imul, 1, 0), (74, .iload 4, 2, 0), (76, .iadd, 1, 0), (77, .iconst 1, 1, 1), (78, .isub, 1, 0), (79, .iaload, 1, 0), (80, .invokestatic 50, 3, 0), (83, .aload_n 0, 1, 0), (84, .getfield 9, 3, 0), (87, .iload_n 2, 1, 0), (88, .aload_n 0, 1, 0), (89, .getfield 9, 3, 0), (92, .iconst 2, 1, 2), (93, .iaload, 1, 0), (94, .iload 4, 2, 0), (96, .iadd, 1, 0), (97, .iconst 1, 1, 1), (98, .isub, 1, 0), (99, .bipush 24, 2, 24), (101, .irem, 1, 0), (102, .invokestatic 75, 3, 0), (105, .if_icmp .le 6, 3, 0), (108, .iload 4, 2, 0), (110, .ireturn, 1, 0), (111, .iinc 4 1, 3, 1), (114, .goto (-88), 3, 0), (117, .bipush (-4), 2, (-4)), (119, .ireturn, 1, 0)]
def jm_i220 : List jm_IT := [(0, .aload_n 0, 1, 0), (1, .iload_n 1, 1, 0), (2, .iconst (-1), 1, (-1)), (3, .invokevirtual 146, 3, 0), (6, .istore_n 2, 1, 0), (7, .iload_n 2, 1, 0), (8, .ifCond .eq 5, 3, 0), (11, .iload_n 2, 1, 0), (12, .ireturn, 1, 0), (13, .aload_n 0, 1, 0), (14, .getfield 9, 3, 0), (17, .aload_n 0, 1, 0), (18, .getfield 13, 3, 0), (21, .invokestatic 153, 3, 0), (24, .iconst 0, 1, 0), (25, .istore_n 3, 1, 0), (26, .iload_n 3, 1, 0), (27, .aload_n 0, 1, 0), (28, .getfield 40, 3, 0), (31, .iload_n 1, 1, 0), (32, .iaload, 1, 0), (33, .if_icmp .ge 63, 3, 0), (36, .aload_n 0, 1, 0), (37, .getfield 43, 3, 0), (40, .bipush 100, 2, 100), (42, .iload_n 1, 1, 0), (43, .imul, 1, 0), (44, .iload_n 3, 1, 0), (45, .iadd, 1, 0), (46, .iaload, 1, 0), (47, .istore 4, 2, 0), (49, .iload 4, 2, 0), (51, .aload_n 0, 1, 0), (52, .getfield 37, 3, 0), (55, .iload_n 1, 1, 0), (56, .iaload, 1, 0), (57, .invokestatic 203, 3, 0), (60, .if_icmp .eq 20, 3, 0), (63, .iload 4, 2, 0), (65, .aload_n 0, 1, 0), (66, .getfield 13, 3, 0), (69, .invokestatic 166, 3, 0), (72, .invokestatic 170, 3, 0), (75, .if_icmp .eq 5, 3, 0), (78, .iload_n 3, 1, 0), (79, .ireturn, 1, 0), (80, .aload_n 0, 1, 0), (81, .getfield 13, 3, 0), (84, .iconst 0, 1, 0), (85, .invokestatic 96, 3, 0), (88, .istore 5, 2, 0), (90, .iinc 3 1, 3, 1), (93, .goto (-67), 3, 0), (96, .bipush (-4), 2, (-4)), (98, .ireturn, 1, 0)]
def jm_i221 : List jm_IT := [(0, .aload_n 0, 1, 0), (1, .aload_n 0, 1, 0), (2, .getfield 223, 3, 0), (5, .ldc 226, 2, 1103515245), (7, .imul, 1, 0), (8, .sipush 12345, 3, 12345), (11, .iadd, 1, 0), (12, .putfield 223, 3, 0), (15, .aload_n 0, 1, 0), (16, .getfield 223, 3, 0), (19, .ldc 227, 2, 2147483647), (21, .iand, 1, 0), (22, .ldc 228, 2, 65536), (24, .idiv, 1, 0), (25, .iload_n 1, 1, 0), (26, .irem, 1, 0), (27, .ireturn, 1, 0)]
def jm_i222 : List jm_IT := [(0, .iload_n 1, 1, 0), (1, .iconst 1, 1, 1), (2, .bipush 20, 2, 20), (4, .invokestatic 46, 3, 0), (7, .ifCond .eq 12, 3, 0), (10, .iload_n 3, 1, 0), (11, .iconst 0, 1, 0), (12, .iconst 1, 1, 1), (13, .invokestatic 46, 3, 0), (16, .ifCond .ne 5, 3, 0), (19, .iconst (-1), 1, (-1)), (20, .ireturn, 1, 0), (21, .aload_n 0, 1, 0), (22, .iload_n 2, 1, 0), (23, .putfield 223, 3, 0), (26, .iconst 0, 1, 0), (27, .istore 4, 2, 0), (29, .iconst 0, 1, 0), (30, .istore 5, 2, 0), (32, .iload 5, 2, 0), (34, .iload_n 1, 1, 0), (35, .if_icmp .ge 108, 3, 0), (38, .aload_n 0, 1, 0), (39, .getfield 9, 3, 0), (42, .aload_n 0, 1, 0), (43, .getfield 13, 3, 0), (46, .invokestatic 153, 3, 0), (49, .iconst 0, 1, 0), (50, .istore 6, 2, 0), (52, .iload 6, 2, 0), (54, .aload_n 0, 1, 0), (55, .getfield 9, 3, 0), (58, .iconst 0, 1, 0), (59, .iaload, 1, 0), (60, .if_icmp .ge 26, 3, 0), (63, .aload_n 0, 1, 0), (64, .getfield 13, 3, 0), (67, .iload 6, 2, 0), (69, .iconst 2, 1, 2), (70, .invokestatic 54, 3, 0), (73, .aload_n 0, 1, 0), (74, .bipush 16, 2, 16), (76, .invokevirtual 229, 3, 0), (79, .iastore, 1, 0), (80, .iinc 6 1, 3, 1), (83, .goto (-31), 3, 0), (86, .aload_n 0, 1, 0), (87, .getfield 13, 3, 0), (90, .bipush 10, 2, 10), (92, .invokestatic 142, 3, 0), (95, .iload 4, 2, 0), (97, .iload_n 3, 1, 0), (98, .ifCond .ne 27, 3, 0), (101, .aload_n 0, 1, 0), (102, .getfield 13, 3, 0), (105, .invokestatic 166, 3, 0), (108, .invokestatic 170, 3, 0), (111, .aload_n 0, 1, 0), (112, .getfield 9, 3, 0), (115, .invokestatic 166, 3, 0), (118, .invokestatic 170, 3, 0), (121, .isub, 1, 0), (122, .goto 12, 3, 0), (125, .aload_n 0, 1, 0), (126, .aload_n 0, 1, 0), (127, .getfield 13, 3, 0), (130, .iconst 1, 1, 1), (131, .invokevirtual 206, 3, 0), (134, .iadd, 1, 0), (135, .istore 4, 2, 0), (137, .iinc 5 1, 3, 1), (140, .goto (-108), 3, 0), (143, .iload 4, 2, 0), (145, .ireturn, 1, 0)]
def jm_i223 : List jm_IT := [(0, .aload_n 0, 1, 0), (1, .getfield 9, 3, 0), (4, .aload_n 0, 1, 0), (5, .getfield 16, 3, 0), (8, .invokestatic 153, 3, 0), (11, .aload_n 0, 1, 0), (12, .iconst 1, 1, 1), (13, .putfield 232, 3, 0), (16, .aload_n 0, 1, 0), (17, .getfield 9, 3, 0), (20, .iconst 3, 1, 3), (21, .iaload, 1, 0), (22, .ireturn, 1, 0)]
def jm_i224 : List jm_IT := [(0, .aload_n 0, 1, 0), (1, .getfield 232, 3, 0), (4, .ifCond .ne 6, 3, 0), (7, .bipush (-3), 2, (-3)), (9, .ireturn, 1, 0), (10, .aload_n 0, 1, 0), (11, .getfield 16, 3, 0), (14, .aload_n 0, 1, 0), (15, .getfield 9, 3, 0), (18, .invokestatic 153, 3, 0), (21, .aload_n 0, 1, 0), (22, .getfield 9, 3, 0), (25, .iconst 3, 1, 3), (26, .iaload, 1, 0), (27, .ireturn, 1, 0)]
def jm_i225 : List jm_IT := [(0, .iload_n 1, 1, 0), (1, .iconst 0, 1, 0), (2, .iconst 3, 1, 3), (3, .invokestatic 46, 3, 0), (6, .ifCond .eq 10, 3, 0), (9, .aload_n 0, 1, 0), (10, .getfield 9, 3, 0), (13, .iload_n 1, 1, 0), (14, .iaload, 1, 0), (15, .ireturn, 1, 0), (16, .iconst 0, 1, 0), (17, .istore_n 2, 1, 0), (18, .iload_n 1, 1, 0), (19, .tableswitch 82 4 6 #[25, 33, 41], 25, 0), (44, .aload_n 0, 1, 0), (45, .getfield 9, 3, 0), (48, .invokestatic 166, 3, 0), (51, .ireturn, 1, 0), (52, .aload_n 0, 1, 0), (53, .getfield 9, 3, 0), (56, .invokestatic 176, 3, 0), (59, .ireturn, 1, 0), (60, .iconst 0, 1, 0), (61, .istore_n 3, 1, 0), (62, .iload_n 3, 1, 0), (63, .aload_n 0, 1, 0), (64, .getfield 9, 3, 0), (67, .iconst 0, 1, 0), (68, .iaload, 1, 0), (69, .if_icmp .ge 30, 3, 0), (72, .iload_n 2, 1, 0), (73, .aload_n 0, 1, 0), (74, .getfield 9, 3, 0), (77, .iload_n 3, 1, 0), (78, .invokestatic 65, 3, 0), (81, .ifCond .eq 9, 3, 0), (84, .iconst 1, 1, 1), (85, .iload_n 3, 1, 0), (86, .ishl, 1, 0), (87, .goto 4, 3, 0), (90, .iconst 0, 1, 0), (91, .ior, 1, 0), (92, .istore_n 2, 1, 0), (93, .iinc 3 1, 3, 1), (96, .goto (-34), 3, 0), (99, .iload_n 2, 1, 0), (100, .ireturn, 1, 0), (101, .iconst (-1), 1, (-1)), (102, .ireturn, 1, 0)]
def jm_i226 : List jm_IT := [(0, .aload_n 0, 1, 0), (1, .getfield 236, 3, 0), (4, .ireturn, 1, 0)]
def jm_i227 : List jm_IT := [(0, .iload_n 0, 1, 0), (1, .iconst 0, 1, 0), (2, .bipush 7, 2, 7), (4, .invokestatic 46, 3, 0), (7, .ireturn, 1, 0)]
def jm_i228 : List jm_IT := [(0, .iload_n 1, 1, 0), (1, .invokestatic 239, 3, 0), (4, .ifCond .ne 7, 3, 0), (7, .iconst (-1), 1, (-1)), (8, .goto 47, 3, 0), (11, .aload_n 0, 1, 0), (12, .getfield 28, 3, 0), (15, .iload_n 1, 1, 0), (16, .iaload, 1, 0), (17, .ifCond .ne 8, 3, 0), (20, .bipush (-11), 2, (-11)), (22, .goto 33, 3, 0), (25, .aload_n 0, 1, 0), (26, .getfield 28, 3, 0), (29, .iload_n 1, 1, 0), (30, .iaload, 1, 0), (31, .iconst 2, 1, 2), (32, .if_icmp .ne 17, 3, 0), (35, .iload_n 2, 1, 0), (36, .ifCond .lt 18, 3, 0), (39, .aload_n 0, 1, 0), (40, .getfield 37, 3, 0), (43, .iload_n 1, 1, 0), (44, .iaload, 1, 0), (45, .iload_n 2, 1, 0), (46, .if_icmp .eq 8, 3, 0), (49, .bipush (-12), 2, (-12)), (51, .goto 4, 3, 0), (54, .iconst 0, 1, 0), (55, .ireturn, 1, 0)]
def jm_i229 : List jm_IT := [(0, .iload_n 1, 1, 0), (1, .invokestatic 239, 3, 0), (4, .ifCond .ne 7, 3, 0), (7, .iconst (-1), 1, (-1)), (8, .goto 33, 3, 0), (11, .aload_n 0, 1, 0), (12, .getfield 28, 3, 0), (15, .iload_n 1, 1, 0), (16, .iaload, 1, 0), (17, .ifCond .ne 8, 3, 0), (20, .bipush (-11), 2, (-11)), (22, .goto 19, 3, 0), (25, .aload_n 0, 1, 0), (26, .getfield 28, 3, 0), (29, .iload_n 1, 1, 0), (30, .iaload, 1, 0), (31, .iconst 2, 1, 2), (32, .if_icmp .ne 8, 3, 0), (35, .bipush (-12), 2, (-12)), (37, .goto 4, 3, 0), (40, .iconst 0, 1, 0), (41, .ireturn, 1, 0)]
def jm_i230 : List jm_IT := [(0, .iload_n 1, 1, 0), (1, .invokestatic 239, 3, 0), (4, .ifCond .eq 38, 3, 0), (7, .iload_n 2, 1, 0), (8, .iconst 0, 1, 0), (9, .iconst 1, 1, 1), (10, .invokestatic 46, 3, 0), (13, .ifCond .eq 29, 3, 0), (16, .iload_n 2, 1, 0), (17, .iconst 1, 1, 1), (18, .if_icmp .ne 26, 3, 0), (21, .iload_n 3, 1, 0), (22, .iconst 0, 1, 0), (23, .bipush 7, 2, 7), (25, .invokestatic 46, 3, 0), (28, .ifCond .eq 14, 3, 0), (31, .iload 4, 2, 0), (33, .iconst 0, 1, 0), (34, .bipush 9, 2, 9), (36, .invokestatic 46, 3, 0), (39, .ifCond .ne 5, 3, 0), (42, .iconst (-1), 1, (-1)), (43, .ireturn, 1, 0), (44, .aload_n 0, 1, 0), (45, .getfield 28, 3, 0), (48, .iload_n 1, 1, 0), (49, .iload_n 2, 1, 0), (50, .iastore, 1, 0), (51, .aload_n 0, 1, 0), (52, .getfield 31, 3, 0), (55, .iload_n 1, 1, 0), (56, .iload_n 3, 1, 0), (57, .iastore, 1, 0), (58, .aload_n 0, 1, 0), (59, .getfield 34, 3, 0), (62, .iload_n 1, 1, 0), (63, .iload 4, 2, 0), (65, .iastore, 1, 0), (66, .iconst 0, 1, 0), (67, .ireturn, 1, 0)]
def jm_i231 : List jm_IT := [(0, .iload_n 1, 1, 0), (1, .invokestatic 239, 3, 0), (4, .ifCond .eq 18, 3, 0), (7, .iload_n 2, 1, 0), (8, .iconst 0, 1, 0), (9, .iconst 2, 1, 2), (10, .invokestatic 46, 3, 0), (13, .ifCond .eq 9, 3, 0), (16, .iload_n 3, 1, 0), (17, .bipush 100, 2, 100), (19, .if_icmp .le 5, 3, 0), (22, .iconst (-1), 1, (-1)), (23, .ireturn, 1, 0), (24, .iload_n 3, 1, 0), (25, .ifCond .ge 6, 3, 0), (28, .bipush (-14), 2, (-14)), (30, .ireturn, 1, 0), (31, .aload_n 0, 1, 0), (32, .getfield 28, 3, 0), (35, .iload_n 1, 1, 0), (36, .iconst 2, 1, 2), (37, .iastore, 1, 0), (38, .aload_n 0, 1, 0), (39, .getfield 37, 3, 0), (42, .iload_n 1, 1, 0), (43, .iload_n 2, 1, 0), (44, .iastore, 1, 0), (45, .aload_n 0, 1, 0), (46, .getfield 40, 3, 0), (49, .iload_n 1, 1, 0), (50, .iload_n 3, 1, 0), (51, .iastore, 1, 0), (52, .iconst 0, 1, 0), (53, .istore 4, 2, 0), (55, .iload 4, 2, 0), (57, .bipush 100, 2, 100), (59, .if_icmp .ge 22, 3, 0), (62, .aload_n 0, 1, 0), (63, .getfield 43, 3, 0), (66, .bipush 100, 2, 100), (68, .iload_n 1, 1, 0), (69, .imul, 1, 0), (70, .iload 4, 2, 0), (72, .iadd, 1, 0), (73, .iconst 0, 1, 0), (74, .iastore, 1, 0), (75, .iinc 4 1, 3, 1), (78, .goto (-23), 3, 0), (81, .iconst 0, 1, 0), (82, .ireturn, 1, 0)]
def jm_i232 : List jm_IT := [(0, .aload_n 0, 1, 0), (1, .iload_n 1, 1, 0), (2, .iconst (-1), 1, (-1)), (3, .invokevirtual 146, 3, 0), (6, .istore 4, 2, 0), (8, .iload 4, 2, 0), (10, .ifCond .eq 6, 3, 0), (13, .iload 4, 2, 0), (15, .ireturn, 1, 0), (16, .iload_n 2, 1, 0), (17, .iconst 0, 1, 0), (18, .aload_n 0, 1, 0), (19, .getfield 40, 3, 0), (22, .iload_n 1, 1, 0), (23, .iaload, 1, 0), (24, .iconst 1, 1, 1), (25, .isub, 1, 0), (26, .invokestatic 46, 3, 0), (29, .ifCond .ne 6, 3, 0), (32, .bipush (-13), 2, (-13)), (34, .ireturn, 1, 0), (35, .aload_n 0, 1, 0), (36, .getfield 43, 3, 0), (39, .bipush 100, 2, 100), (41, .iload_n 1, 1, 0), (42, .imul, 1, 0), (43, .iload_n 2, 1, 0), (44, .iadd, 1, 0), (45, .aload_n 0, 1, 0), (46, .getfield 37, 3, 0), (49, .iload_n 1, 1, 0), (50, .iaload, 1, 0), (51, .ifCond .ne 8, 3, 0), (54, .iload_n 3, 1, 0), (55, .i2b, 1, 0), (56, .goto 19, 3, 0), (59, .aload_n 0, 1, 0), (60, .getfield 37, 3, 0), (63, .iload_n 1, 1, 0), (64, .iaload, 1, 0), (65, .iconst 1, 1, 1), (66, .if_icmp .ne 8, 3, 0), (69, .iload_n 3, 1, 0), (70, .i2s, 1, 0), (71, .goto 4, 3, 0), (74, .iload_n 3, 1, 0), (75, .iastore, 1, 0), (76, .iconst 0, 1, 0), (77, .ireturn, 1, 0)]
def jm_i233 : List jm_IT := [(0, .aload_n 0, 1, 0), (1, .iload_n 1, 1, 0), (2, .invokestatic 239, 3, 0), (5, .ifCond .ne 7, 3, 0), (8, .iconst 1, 1, 1), (9, .goto 34, 3, 0), (12, .aload_n 0, 1, 0), (13, .getfield 28, 3, 0), (16, .iload_n 1, 1, 0), (17, .iaload, 1, 0), (18, .iconst 2, 1, 2), (19, .if_icmp .ne 19, 3, 0), (22, .iload_n 2, 1, 0), (23, .iconst 0, 1, 0), (24, .aload_n 0, 1, 0), (25, .getfield 40, 3, 0), (28, .iload_n 1, 1, 0), (29, .iaload, 1, 0), (30, .iconst 1, 1, 1), (31, .isub, 1, 0), (32, .invokestatic 46, 3, 0), (35, .ifCond .ne 7, 3, 0), (38, .iconst 2, 1, 2), (39, .goto 4, 3, 0), (42, .iconst 0, 1, 0), (43, .putfield 236, 3, 0), (46, .aload_n 0, 1, 0), (47, .getfield 236, 3, 0), (50, .ifCond .ne 18, 3, 0), (53, .aload_n 0, 1, 0), (54, .getfield 43, 3, 0), (57, .bipush 100, 2, 100), (59, .iload_n 1, 1, 0), (60, .imul, 1, 0), (61, .iload_n 2, 1, 0), (62, .iadd, 1, 0), (63, .iaload, 1, 0), (64, .i2l, 1, 0), (65, .goto 4, 3, 0), (68, .lconst 0, 1, 0), (69, .lreturn, 1, 0)]
def jm_i234 : List jm_IT := [(0, .iload_n 1, 1, 0), (1, .invokestatic 239, 3, 0), (4, .ifCond .eq 10, 3, 0), (7, .iload_n 3, 1, 0), (8, .invokestatic 239, 3, 0), (11, .ifCond .ne 5, 3, 0), (14, .iconst (-1), 1, (-1)), (15, .ireturn, 1, 0), (16, .aload_n 0, 1, 0), (17, .getfield 28, 3, 0), (20, .iload_n 1, 1, 0), (21, .iaload, 1, 0), (22, .ifCond .eq 12, 3, 0), (25, .aload_n 0, 1, 0), (26, .getfield 28, 3, 0), (29, .iload_n 3, 1, 0), (30, .iaload, 1, 0), (31, .ifCond .ne 6, 3, 0), (34, .bipush (-11), 2, (-11)), (36, .ireturn, 1, 0), (37, .aload_n 0, 1, 0), (38, .getfield 28, 3, 0), (41, .iload_n 1, 1, 0), (42, .iaload, 1, 0), (43, .iconst 2, 1, 2), (44, .if_icmp .ne 28, 3, 0), (47, .aload_n 0, 1, 0), (48, .getfield 28, 3, 0), (51, .iload_n 3, 1, 0), (52, .iaload, 1, 0), (53, .iconst 2, 1, 2), (54, .if_icmp .ne 18, 3, 0), (57, .aload_n 0, 1, 0), (58, .getfield 37, 3, 0), (61, .iload_n 1, 1, 0), (62, .iaload, 1, 0), (63, .aload_n 0, 1, 0), (64, .getfield 37, 3, 0), (67, .iload_n 3, 1, 0), (68, .iaload, 1, 0), (69, .if_icmp .eq 6, 3, 0), (72, .bipush (-12), 2, (-12)), (74, .ireturn, 1, 0), (75, .iload 5, 2, 0), (77, .ifCond .lt 39, 3, 0), (80, .iload_n 2, 1, 0), (81, .ifCond .lt 35, 3, 0), (84, .iload 4, 2, 0), (86, .ifCond .lt 30, 3, 0), (89, .iload 5, 2, 0), (91, .aload_n 0, 1, 0), (92, .getfield 40, 3, 0), (95, .iload_n 1, 1, 0), (96, .iaload, 1, 0), (97, .iload_n 2, 1, 0), (98, .isub, 1, 0), (99, .if_icmp .gt 17, 3, 0), (102, .iload 5, 2, 0), (104, .aload_n 0, 1, 0), (105, .getfield 40, 3, 0), (108, .iload_n 3, 1, 0), (109, .iaload, 1, 0), (110, .iload 4, 2, 0), (112, .isub, 1, 0), (113, .if_icmp .le 6, 3, 0), (116, .bipush (-13), 2, (-13)), (118, .ireturn, 1, 0), (119, .iconst 0, 1, 0), (120, .istore 6, 2, 0), (122, .iload 6, 2, 0), (124, .iload 5, 2, 0), (126, .if_icmp .ge 58, 3, 0), (129, .iload_n 2, 1, 0), (130, .iload 4, 2, 0), (132, .if_icmp .le 8, 3, 0), (135, .iload 6, 2, 0), (137, .goto 10, 3, 0), (140, .iload 5, 2, 0), (142, .iconst 1, 1, 1), (143, .isub, 1, 0), (144, .iload 6, 2, 0), (146, .isub, 1, 0), (147, .istore 7, 2, 0), (149, .aload_n 0, 1, 0), (150, .getfield 43, 3, 0), (153, .bipush 100, 2, 100), (155, .iload_n 3, 1, 0), (156, .imul, 1, 0), (157, .iload 4, 2, 0), (159, .iadd, 1, 0), (160, .iload 7, 2, 0), (162, .iadd, 1, 0), (163, .aload_n 0, 1, 0), (164, .getfield 43, 3, 0), (167, .bipush 100, 2, 100), (169, .iload_n 1, 1, 0), (170, .imul, 1, 0), (171, .iload_n 2, 1, 0), (172, .iadd, 1, 0), (173, .iload 7, 2, 0), (175, .iadd, 1, 0), (176, .iaload, 1, 0), (177, .iastore, 1, 0), (178, .iinc 6 1, 3, 1), (181, .goto (-59), 3, 0), (184, .iload 5, 2, 0), (186, .ireturn, 1, 0)]
def jm_i235 : List jm_IT := [(0, .iload_n 0, 1, 0), (1, .tableswitch 67 1 7 #[43, 47, 49, 52, 58, 61, 65], 43, 0), (44, .iconst 3, 1, 3), (45, .iload_n 1, 1, 0), (46, .iadd, 1, 0), (47, .ireturn, 1, 0), (48, .iconst 2, 1, 2), (49, .ireturn, 1, 0), (50, .bipush 8, 2, 8), (52, .ireturn, 1, 0), (53, .iconst 3, 1, 3), (54, .iload_n 1, 1, 0), (55, .iadd, 1, 0), (56, .iconst 2, 1, 2), (57, .idiv, 1, 0), (58, .ireturn, 1, 0), (59, .bipush 16, 2, 16), (61, .ireturn, 1, 0), (62, .iconst 2, 1, 2), (63, .iload_n 1, 1, 0), (64, .iadd, 1, 0), (65, .ireturn, 1, 0), (66, .iconst 0, 1, 0), (67, .ireturn, 1, 0), (68, .iconst 3, 1, 3), (69, .ireturn, 1, 0)]
def jm_i236 : List jm_IT := [(0, .aload_n 0, 1, 0), (1, .iload_n 1, 1, 0), (2, .invokevirtual 163, 3, 0), (5, .istore_n 2, 1, 0), (6, .iload_n 2, 1, 0), (7, .ifCond .eq 7, 3, 0), (10, .iload_n 2, 1, 0), (11, .goto 18, 3, 0), (14, .aload_n 0, 1, 0), (15, .getfield 31, 3, 0), (18, .iload_n 1, 1, 0), (19, .iaload, 1, 0), (20, .aload_n 0, 1, 0), (21, .getfield 34, 3, 0), (24, .iload_n 1, 1, 0), (25, .iaload, 1, 0), (26, .invokestatic 242, 3, 0), (29, .ireturn, 1, 0)]
def jm_i237 : List jm_IT := [(0, .aload_n 0, 1, 0), (1, .iload_n 1, 1, 0), (2, .invokevirtual 163, 3, 0), (5, .istore_n 2, 1, 0), (6, .iload_n 2, 1, 0), (7, .ifCond .eq 5, 3, 0), (10, .iload_n 2, 1, 0), (11, .ireturn, 1, 0), (12, .aload_n 0, 1, 0), (13, .getfield 31, 3, 0), (16, .iload_n 1, 1, 0), (17, .iaload, 1, 0), (18, .istore_n 3, 1, 0), (19, .aload_n 0, 1, 0), (20, .getfield 34, 3, 0), (23, .iload_n 1, 1, 0), (24, .iaload, 1, 0), (25, .istore 4, 2, 0), (27, .iload_n 3, 1, 0), (28, .iconst 3, 1, 3), (29, .if_icmp .eq 19, 3, 0), (32, .iload_n 3, 1, 0), (33, .iconst 5, 1, 5), (34, .if_icmp .eq 14, 3, 0), (37, .iload_n 3, 1, 0), (38, .bipush 7, 2, 7), (40, .if_icmp .eq 8, 3, 0), (43, .iload 4, 2, 0), (45, .ifCond .ne 6, 3, 0), (48, .bipush (-15), 2, (-15)), (50, .ireturn, 1, 0), (51, .iload_n 3, 1, 0), (52, .bipush 6, 2, 6), (54, .if_icmp .ne 16, 3, 0), (57, .sipush 200, 3, 200), (60, .iload_n 3, 1, 0), (61, .iload 4, 2, 0), (63, .invokestatic 242, 3, 0), (66, .iadd, 1, 0), (67, .goto 18, 3, 0), (70, .iload_n 3, 1, 0), (71, .iconst 2, 1, 2), (72, .if_icmp .ne 11, 3, 0), (75, .bipush 100, 2, 100), (77, .iload 4, 2, 0), (79, .iadd, 1, 0), (80, .goto 5, 3, 0), (83, .iload 4, 2, 0), (85, .ireturn, 1, 0)]
def jm_i238 : List jm_IT := [(0, .iload_n 0, 1, 0), (1, .iload_n 0, 1, 0), (2, .iconst 1, 1, 1), (3, .iushr, 1, 0), (4, .ldc_w 265, 3, 1431655765), (7, .iand, 1, 0), (8, .isub, 1, 0), (9, .istore_n 0, 1, 0), (10, .iload_n 0, 1, 0), (11, .ldc_w 266, 3, 858993459), (14, .iand, 1, 0), (15, .iload_n 0, 1, 0), (16, .iconst 2, 1, 2), (17, .iushr, 1, 0), (18, .ldc_w 266, 3, 858993459), (21, .iand, 1, 0), (22, .iadd, 1, 0), (23, .istore_n 0, 1, 0), (24, .iload_n 0, 1, 0), (25, .iload_n 0, 1, 0), (26, .iconst 4, 1, 4), (27, .iushr, 1, 0), (28, .iadd, 1, 0), (29, .ldc_w 267, 3, 252645135), (32, .iand, 1, 0), (33, .istore_n 0, 1, 0), (34, .iload_n 0, 1, 0), (35, .iload_n 0, 1, 0), (36, .bipush 8, 2, 8), (38, .iushr, 1, 0), (39, .iadd, 1, 0), (40, .istore_n 0, 1, 0), (41, .iload_n 0, 1, 0), (42, .iload_n 0, 1, 0), (43, .bipush 16, 2, 16), (45, .iushr, 1, 0), (46, .iadd, 1, 0), (47, .istore_n 0, 1, 0), (48, .iload_n 0, 1, 0), (49, .bipush 63, 2, 63), (51, .iand, 1, 0), (52, .ireturn, 1, 0)]
def jm_i239 : List jm_IT := [(0, .iconst 0, 1, 0), (1, .istore_n 2, 1, 0), (2, .aload_n 0, 1, 0), (3, .arraylength, 1, 0), (4, .istore_n 3, 1, 0), (5, .iload_n 2, 1, 0), (6, .iload_n 3, 1, 0), (7, .if_icmp .ge 13, 3, 0), (10, .aload_n 0, 1, 0), (11, .iload_n 2, 1, 0), (12, .iload_n 1, 1, 0), (13, .iastore, 1, 0), (14, .iinc 2 1, 3, 1), (17, .goto (-12), 3, 0), (20, .return_, 1, 0)]
def jm_is0 : List (List jm_IT) := [jm_i0, jm_i1, jm_i2, jm_i3, jm_i4, jm_i5, jm_i6, jm_i7, jm_i8, jm_i9, jm_i10, jm_i11, jm_i12, jm_i13, jm_i14, jm_i15, jm_i16, jm_i17, jm_i18, jm_i19, jm_i20, jm_i21, jm_i22, jm_i23, jm_i24]
def jm_is1 : List (List jm_IT) := [jm_i25, jm_i26, jm_i27, jm_i28, jm_i29, jm_i30, jm_i31, jm_i32, jm_i33, jm_i34, jm_i35, jm_i36, jm_i37, jm_i38, jm_i39, jm_i40, jm_i41, jm_i42, jm_i43, jm_i44, jm_i45, jm_i46, jm_i47, jm_i48, jm_i49]
def jm_is2 : List (List jm_IT) := [jm_i50, jm_i51, jm_i52, jm_i53, jm_i54, jm_i55, jm_i56, jm_i57, jm_i58, jm_i59, jm_i60, jm_i61, jm_i62, jm_i63, jm_i64, jm_i65, jm_i66, jm_i67, jm_i68, jm_i69, jm_i70, jm_i71, jm_i72, jm_i73, jm_i74]
def jm_is3 : List (List jm_IT) := [jm_i75, jm_i76, jm_i77, jm_i78, jm_i79, jm_i80, jm_i81, jm_i82, jm_i83, jm_i84, jm_i85, jm_i86, jm_i87, jm_i88, jm_i89, jm_i90, jm_i91, jm_i92, jm_i93, jm_i94, jm_i95, jm_i96, jm_i97, jm_i98, jm_i99]
def jm_is4 : List (List jm_IT) := [jm_i100, jm_i101, jm_i102, jm_i103, jm_i104, jm_i105, jm_i106, jm_i107, jm_i108, jm_i109, jm_i110, jm_i111, jm_i112, jm_i113, jm_i114, jm_i115, jm_i116, jm_i117, jm_i118, jm_i119, jm_i120, jm_i121, jm_i122, jm_i123, jm_i124]
def jm_is5 : List (List jm_IT) := [jm_i125, jm_i126, jm_i127, jm_i128, jm_i129, jm_i130, jm_i131, jm_i132, jm_i133, jm_i134, jm_i135, jm_i136, jm_i137, jm_i138, jm_i139, jm_i140, jm_i141, jm_i142, jm_i143, jm_i144, jm_i145, jm_i146, jm_i147, jm_i148, jm_i149]
def jm_is6 : List (List jm_IT) := [jm_i150, jm_i151, jm_i152, jm_i153, jm_i154, jm_i155, jm_i156, jm_i157, jm_i158, jm_i159, jm_i160, jm_i161, jm_i162, jm_i163, jm_i164, jm_i165, jm_i166, jm_i167, jm_i168, jm_i169, jm_i170, jm_i171, jm_i172, jm_i173, jm_i174]
def jm_is7 : List (List jm_IT) := [jm_i175, jm_i176, jm_i177, jm_i178, jm_i179, jm_i180, jm_i181, jm_i182, jm_i183, jm_i184, jm_i185, jm_i186, jm_i187, jm_i188, jm_i189, jm_i190, jm_i191, jm_i192, jm_i193, jm_i194, jm_i195, jm_i196, jm_i197, jm_i198, jm_i199]
def jm_is8 : List (List jm_IT) := [jm_i200, jm_i201, jm_i202, jm_i203, jm_i204, jm_i205, jm_i206, jm_i207, jm_i208, jm_i209, jm_i210, jm_i211, jm_i212, jm_i213, jm_i214, jm_i215, jm_i216, jm_i217, jm_i218, jm_i219, jm_i220, jm_i221, jm_i222, jm_i223, jm_i224]
def jm_is9 : List (List jm_IT) := [jm_i225, jm_i226, jm_i227, jm_i228, jm_i229, jm_i230, jm_i231, jm_i232, jm_i233, jm_i234, jm_i235, jm_i236, jm_i237, jm_i238, jm_i239]
def jm_is : List (List jm_IT) := jm_is0 ++ (jm_is1 ++ (jm_is2 ++ (jm_is3 ++ (jm_is4 ++ (jm_is5 ++ (jm_is6 ++ (jm_is7 ++ (jm_is8 ++ (jm_is9)))))))))
/-- fields by class and pool number: (number of the class, slot, place of the word) -/
def jm_fl : List (List (Nat × Nat × Nat × Nat)) := [[(9, 1, 7, 154), (15, 1, 3, 142)],
  [(9, 1, 1, 136), (15, 1, 2, 138), (18, 1, 3, 140), (21, 1, 4, 147), (24, 1, 5, 149), (27, 1, 6, 151), (30, 1, 7, 153), (33, 1, 8, 158), (36, 1, 11, 166), (40, 1, 0, 135), (50, 1, 9, 162), (53, 1, 10, 164), (56, 1, 12, 170), (59, 1, 13, 172), (62, 1, 14, 174)],
  [(9, 1, 11, 167), (15, 1, 3, 144)],
  [(7, 1, 8, 159), (13, 1, 3, 143)],
  [],
  [(11, 5, 0, 212), (15, 5, 5, 223), (19, 5, 1, 214), (22, 5, 2, 216), (25, 5, 3, 219), (28, 5, 4, 221)],
  [(7, 1, 11, 168), (15, 1, 7, 155), (19, 1, 3, 145)],
  [],
  [(20, 5, 4, 222), (31, 1, 7, 156), (41, 1, 8, 160)],
  [],
  [(7, 1, 3, 141)],
  [(11, 10, 5, 243), (15, 10, 6, 244), (43, 10, 0, 238), (52, 10, 1, 239), (56, 10, 2, 240), (59, 10, 3, 241), (67, 5, 3, 218), (84, 5, 4, 220), (101, 1, 1, 137), (104, 1, 2, 139), (107, 1, 3, 146), (110, 1, 4, 148), (113, 1, 5, 150), (119, 1, 11, 169), (132, 1, 6, 152), (141, 1, 7, 157), (144, 1, 8, 161), (156, 5, 1, 215), (158, 5, 2, 217), (164, 1, 9, 163), (173, 1, 10, 165), (193, 1, 13, 173), (232, 1, 14, 175), (313, 10, 4, 242), (317, 1, 12, 171), (353, 5, 0, 213), (360, 5, 5, 224)],
  [(9, 11, 0, 1000), (13, 11, 1, 1001), (16, 11, 2, 1002), (19, 11, 3, 1003), (22, 11, 8, 1008), (25, 11, 9, 1009), (28, 11, 11, 1011), (31, 11, 12, 1012), (34, 11, 13, 1013), (37, 11, 14, 1014), (40, 11, 15, 1015), (43, 11, 16, 1016), (100, 11, 5, 1005), (104, 11, 7, 1007), (107, 11, 6, 1006), (223, 11, 10, 1010), (232, 11, 4, 1004), (236, 11, 17, 1017)],
  [],
  []]
/-- int constants by class and pool number: (value, place of the word) -/
def jm_con : List (List (Nat × Int32 × Nat)) := [[], [], [], [], [], [(45, (-2147483648), 705)], [], [], [], [], [], [(241, 65535, 656), (310, 1103515245, 764), (311, 2147483647, 768), (312, 65536, 769)], [(188, 1000000000, 1249), (198, 65535, 1285), (202, (-2147483648), 1317), (226, 1103515245, 1361), (227, 2147483647, 1362), (228, 65536, 1363)], [(265, 1431655765, 564), (266, 858993459, 565), (267, 252645135, 566)], []]
def jm_conL : List (List (Nat × Int64 × Nat)) := [[], [], [], [], [], [], [], [], [], [], [], [(275, 1000000001, 722)], [(217, 1000000001, 1334)], [], []]
/-- System.arraycopy by class and pool number: place of the word -/
def jm_acp : List (List (Nat × Nat)) := [[], [(44, 300)], [], [], [], [], [], [], [], [], [], [(363, 825)], [], [], []]
/-- Math.max, min, abs (0, 1, 2) by class and pool number: places of the words -/
def jm_mth : List (List (Nat × Nat × List Nat)) := [[], [(69, 1, [440, 441, 53, 442]), (102, 0, [443, 444, 53, 445]), (127, 2, [418, 419, 53, 420])], [], [], [], [], [], [], [], [], [], [(299, 2, [752, 419, 53, 420])], [], [], []]
/-- calls by class and pool number: (kind, parameters, [(class of the receiver, method, places of the words)]); kinds: 0 static, 1 static of a nest mate, 2 a method of the class itself, 3 a method of Cat that may be overridden, 4 super -/
def jm_c0 : List (Nat × jm_CE) := [(18, 2, 2, [(1, 32, [439, 415, 416, 48])])]
def jm_c1 : List (Nat × jm_CE) := [(65, 2, 1, [(1, 8, [346, 347, 348, 48])]),
  (75, 2, 0, [(1, 18, [366, 367, 368, 48])]),
  (78, 2, 1, [(1, 20, [370, 372, 3, 48])]),
  (82, 2, 1, [(1, 21, [446, 447, 448, 48])]),
  (85, 1, 1, [(0, 142, [466, 467, 39])]),
  (89, 2, 2, [(1, 22, [469, 471, 4, 48])]),
  (93, 2, 0, [(1, 23, [495, 497, 5, 48])]),
  (96, 2, 2, [(1, 25, [374, 375, 376, 48])]),
  (99, 2, 1, [(1, 24, [400, 401, 402, 48])]),
  (105, 3, 0, [(0, 2, [450, 453, 451, 452, 451, 40, 465]), (2, 2, [450, 453, 451, 454, 451, 40, 465]), (3, 2, [450, 453, 451, 455, 451, 40, 465]), (4, 2, [450, 453, 451, 456, 451, 40, 465]), (6, 50, [450, 453, 451, 457, 458, 45, 465]), (7, 2, [450, 453, 451, 460, 451, 40, 465]), (8, 2, [450, 453, 451, 461, 451, 40, 465]), (9, 71, [450, 453, 451, 462, 463, 43, 465])]),
  (111, 2, 1, [(1, 26, [473, 474, 475, 48])]),
  (114, 2, 1, [(1, 10, [491, 492, 493, 48])]),
  (117, 3, 2, [(0, 0, [404, 407, 405, 406, 405, 40, 438]), (2, 34, [404, 407, 405, 408, 409, 44, 438]), (3, 37, [404, 407, 405, 411, 412, 41, 438]), (4, 0, [404, 407, 405, 421, 405, 40, 438]), (6, 49, [404, 407, 405, 422, 423, 45, 438]), (7, 66, [404, 407, 405, 429, 430, 42, 438]), (8, 66, [404, 407, 405, 436, 430, 42, 438]), (9, 70, [404, 407, 405, 437, 427, 43, 438])]),
  (121, 3, 2, [(0, 1, [378, 381, 379, 380, 379, 40, 399]), (2, 35, [378, 381, 379, 382, 383, 44, 399]), (3, 1, [378, 381, 379, 385, 379, 40, 399]), (4, 39, [378, 381, 379, 386, 387, 47, 399]), (6, 1, [378, 381, 379, 389, 379, 40, 399]), (7, 53, [378, 381, 379, 390, 391, 46, 399]), (8, 67, [378, 381, 379, 397, 394, 42, 399]), (9, 1, [378, 381, 379, 398, 379, 40, 399])]),
  (124, 3, 1, [(0, 3, [477, 480, 478, 479, 478, 40, 490]), (2, 3, [477, 480, 478, 481, 478, 40, 490]), (3, 3, [477, 480, 478, 482, 478, 40, 490]), (4, 3, [477, 480, 478, 483, 478, 40, 490]), (6, 51, [477, 480, 478, 484, 485, 45, 490]), (7, 3, [477, 480, 478, 487, 478, 40, 490]), (8, 3, [477, 480, 478, 488, 478, 40, 490]), (9, 3, [477, 480, 478, 489, 478, 40, 490])])]
def jm_c2 : List (Nat × jm_CE) := [(19, 4, 1, [(0, 38, [837, 1414, 107, 838, 41])])]
def jm_c3 : List (Nat × jm_CE) := [(16, 2, 2, [(1, 32, [414, 415, 416, 48])]),
  (20, 4, 1, [(0, 4, [840, 833, 86, 831, 40])])]
def jm_c4 : List (Nat × jm_CE) := []
def jm_c5 : List (Nat × jm_CE) := [(31, 0, 2, [(0, 239, [807, 678, 55])]),
  (37, 2, 1, [(5, 44, [285, 286, 287, 49])]),
  (41, 2, 1, [(5, 46, [704, 282, 283, 49])])]
def jm_c6 : List (Nat × jm_CE) := [(22, 2, 2, [(1, 32, [425, 415, 416, 48])]),
  (26, 4, 2, [(0, 70, [426, 1413, 114, 427, 43])]),
  (30, 4, 1, [(0, 72, [848, 1415, 114, 849, 43])])]
def jm_c7 : List (Nat × jm_CE) := [(7, 4, 2, [(0, 67, [393, 1412, 121, 394, 42])]),
  (11, 4, 1, [(0, 68, [855, 1416, 121, 856, 42])]),
  (15, 2, 1, [(7, 54, [960, 853, 1418, 46])])]
def jm_c8 : List (Nat × jm_CE) := [(9, 0, 1, [(0, 56, [289, 290, 51])]),
  (15, 2, 1, [(5, 46, [281, 282, 283, 49])]),
  (24, 0, 3, [(0, 60, [306, 307, 51])]),
  (28, 0, 3, [(0, 61, [322, 323, 51])]),
  (37, 0, 3, [(0, 62, [332, 333, 51])]),
  (44, 0, 3, [(0, 63, [335, 336, 51])]),
  (47, 0, 3, [(0, 64, [354, 355, 51])]),
  (50, 0, 3, [(0, 65, [309, 310, 51])]),
  (54, 1, 1, [(0, 140, [312, 313, 39])]),
  (58, 1, 1, [(0, 138, [315, 316, 39])]),
  (61, 2, 3, [(1, 13, [318, 319, 320, 48])]),
  (65, 1, 1, [(0, 139, [325, 326, 39])]),
  (68, 2, 1, [(1, 14, [328, 329, 330, 48])]),
  (71, 2, 1, [(1, 7, [338, 339, 340, 48])]),
  (74, 2, 1, [(1, 9, [342, 343, 344, 48])]),
  (77, 2, 2, [(1, 15, [350, 351, 352, 48])]),
  (81, 1, 3, [(0, 136, [357, 276, 39])]),
  (84, 2, 1, [(1, 12, [358, 359, 360, 48])]),
  (87, 2, 1, [(1, 17, [362, 363, 364, 48])])]
def jm_c9 : List (Nat × jm_CE) := [(7, 2, 1, [(1, 33, [432, 433, 434, 48])]),
  (13, 4, 2, [(0, 1, [396, 381, 93, 379, 40])]),
  (17, 4, 1, [(0, 5, [964, 952, 93, 950, 40])])]
def jm_c10 : List (Nat × jm_CE) := [(13, 4, 1, [(0, 4, [851, 833, 100, 831, 40])])]
def jm_c11 : List (Nat × jm_CE) := [(63, 2, 1, [(10, 133, [264, 266, 0, 39])]),
  (71, 0, 1, [(0, 58, [278, 279, 51])]),
  (77, 2, 1, [(10, 74, [292, 294, 2, 39])]),
  (80, 2, 1, [(1, 6, [296, 297, 298, 48])]),
  (87, 0, 3, [(0, 59, [303, 304, 51])]),
  (91, 2, 1, [(5, 46, [499, 282, 283, 49])]),
  (94, 0, 1, [(0, 57, [500, 501, 51])]),
  (97, 2, 1, [(1, 7, [507, 339, 340, 48])]),
  (116, 2, 1, [(1, 24, [508, 401, 402, 48])]),
  (122, 2, 2, [(1, 25, [509, 375, 376, 48])]),
  (126, 2, 1, [(1, 26, [510, 474, 475, 48])]),
  (129, 2, 1, [(1, 8, [515, 347, 348, 48])]),
  (135, 2, 1, [(1, 10, [516, 492, 493, 48])]),
  (138, 0, 1, [(0, 138, [521, 316, 39])]),
  (147, 2, 1, [(1, 28, [522, 523, 524, 48])]),
  (150, 0, 1, [(0, 137, [272, 273, 39])]),
  (153, 2, 1, [(10, 134, [530, 532, 6, 39])]),
  (160, 2, 3, [(1, 13, [534, 319, 320, 48])]),
  (167, 0, 1, [(0, 139, [539, 326, 39])]),
  (170, 2, 1, [(1, 14, [540, 329, 330, 48])]),
  (176, 2, 1, [(1, 9, [545, 343, 344, 48])]),
  (179, 2, 2, [(1, 15, [546, 351, 352, 48])]),
  (183, 0, 3, [(0, 136, [275, 276, 39])]),
  (186, 2, 1, [(1, 12, [559, 359, 360, 48])]),
  (189, 2, 1, [(1, 17, [560, 363, 364, 48])]),
  (196, 0, 1, [(0, 238, [561, 562, 54])]),
  (201, 0, 1, [(0, 141, [571, 572, 39])]),
  (204, 2, 1, [(10, 132, [574, 576, 7, 39])]),
  (207, 2, 0, [(1, 31, [582, 583, 584, 48])]),
  (211, 2, 0, [(1, 18, [590, 367, 368, 48])]),
  (214, 2, 1, [(1, 11, [591, 592, 593, 48])]),
  (217, 2, 1, [(10, 89, [603, 605, 8, 39])]),
  (220, 2, 2, [(10, 92, [615, 617, 9, 39])]),
  (223, 2, 1, [(1, 21, [623, 447, 448, 48])]),
  (226, 2, 2, [(1, 16, [628, 629, 630, 48])]),
  (229, 2, 2, [(10, 95, [632, 634, 10, 39])]),
  (235, 2, 1, [(10, 98, [644, 646, 11, 39])]),
  (238, 2, 0, [(1, 29, [652, 653, 654, 48])]),
  (242, 2, 1, [(10, 104, [673, 675, 12, 39])]),
  (245, 0, 2, [(0, 239, [677, 678, 55])]),
  (251, 0, 1, [(0, 106, [684, 685, 39])]),
  (254, 0, 1, [(0, 142, [687, 467, 39])]),
  (257, 2, 3, [(10, 108, [692, 694, 13, 39])]),
  (261, 2, 2, [(10, 109, [696, 698, 14, 39])]),
  (265, 2, 1, [(5, 48, [700, 701, 702, 49])]),
  (268, 2, 3, [(10, 111, [710, 712, 15, 39])]),
  (272, 2, 0, [(1, 30, [714, 715, 716, 48])]),
  (277, 2, 2, [(10, 113, [723, 725, 16, 39])]),
  (280, 0, 2, [(0, 114, [731, 732, 39])]),
  (284, 0, 3, [(0, 116, [734, 735, 39])]),
  (288, 2, 0, [(1, 19, [727, 728, 729, 48])]),
  (291, 0, 2, [(0, 117, [737, 738, 39])]),
  (295, 2, 4, [(10, 119, [748, 750, 17, 39])]),
  (304, 0, 1, [(0, 122, [761, 762, 39])]),
  (307, 0, 1, [(0, 123, [765, 766, 39])]),
  (320, 2, 0, [(1, 27, [782, 783, 784, 48])]),
  (323, 2, 0, [(5, 41, [790, 791, 792, 49])]),
  (326, 0, 1, [(0, 140, [794, 313, 39])]),
  (329, 2, 2, [(5, 42, [795, 796, 797, 49])]),
  (332, 2, 2, [(5, 43, [803, 804, 805, 49])]),
  (335, 2, 1, [(5, 44, [812, 286, 287, 49])]),
  (338, 2, 2, [(5, 47, [813, 814, 815, 49])]),
  (356, 2, 2, [(5, 45, [821, 822, 823, 49])]),
  (369, 3, 1, [(0, 4, [830, 833, 831, 832, 831, 40, 860]), (2, 36, [830, 833, 831, 834, 835, 44, 860]), (3, 38, [830, 833, 831, 841, 838, 41, 860]), (4, 40, [830, 833, 831, 842, 843, 47, 860]), (6, 52, [830, 833, 831, 845, 846, 45, 860]), (7, 54, [830, 833, 831, 852, 853, 46, 860]), (8, 68, [830, 833, 831, 858, 856, 42, 860]), (9, 72, [830, 833, 831, 859, 849, 43, 860])]),
  (378, 2, 2, [(10, 135, [268, 270, 1, 39])])]
def jm_c12 : List (Nat × jm_CE) := [(46, 0, 3, [(0, 143, [1066, 1067, 50])]),
  (50, 0, 2, [(0, 145, [1134, 1135, 50])]),
  (54, 0, 2, [(0, 147, [1095, 1096, 50])]),
  (57, 0, 3, [(0, 155, [1131, 1132, 50])]),
  (61, 0, 2, [(0, 156, [1137, 1138, 50])]),
  (65, 0, 2, [(0, 160, [1155, 1156, 50])]),
  (69, 0, 2, [(0, 148, [1102, 1103, 50])]),
  (72, 0, 2, [(0, 157, [1128, 1129, 50])]),
  (75, 0, 3, [(0, 158, [1140, 1141, 50])]),
  (78, 0, 2, [(0, 144, [1143, 1144, 50])]),
  (81, 0, 1, [(0, 159, [1146, 1147, 50])]),
  (85, 0, 1, [(0, 154, [1149, 1150, 50])]),
  (88, 0, 3, [(0, 161, [1152, 1153, 50])]),
  (92, 0, 3, [(0, 162, [1125, 1126, 50])]),
  (96, 0, 2, [(0, 163, [1122, 1123, 50])]),
  (110, 2, 0, [(11, 168, [1073, 1075, 21, 50])]),
  (114, 2, 2, [(11, 169, [1077, 1079, 22, 50])]),
  (118, 0, 1, [(0, 151, [1088, 1089, 50])]),
  (122, 2, 3, [(11, 171, [1091, 1093, 24, 50])]),
  (126, 2, 1, [(11, 172, [1098, 1100, 25, 50])]),
  (130, 2, 1, [(11, 149, [1105, 1107, 26, 50])]),
  (133, 2, 1, [(11, 150, [1109, 1111, 27, 50])]),
  (136, 0, 3, [(0, 166, [1113, 1114, 50])]),
  (139, 0, 2, [(0, 167, [1116, 1117, 50])]),
  (142, 0, 2, [(0, 164, [1119, 1120, 50])]),
  (146, 2, 2, [(11, 228, [1059, 1061, 19, 50])]),
  (149, 2, 0, [(11, 170, [1069, 1071, 20, 50])]),
  (153, 0, 2, [(0, 146, [1081, 1082, 50])]),
  (157, 2, 1, [(11, 173, [1084, 1086, 23, 50])]),
  (160, 0, 2, [(0, 177, [1170, 1171, 50])]),
  (163, 2, 1, [(11, 229, [1177, 1179, 28, 50])]),
  (166, 0, 1, [(0, 165, [1201, 1202, 50])]),
  (170, 0, 1, [(0, 153, [1204, 1205, 50])]),
  (173, 2, 1, [(11, 185, [1211, 1213, 29, 50])]),
  (176, 0, 1, [(0, 187, [1219, 1220, 50])]),
  (179, 0, 2, [(0, 152, [1226, 1227, 50])]),
  (182, 2, 1, [(11, 191, [1241, 1243, 31, 50])]),
  (185, 2, 1, [(11, 192, [1237, 1239, 30, 50])]),
  (189, 2, 2, [(11, 195, [1254, 1256, 32, 50])]),
  (192, 0, 3, [(0, 198, [1266, 1267, 50])]),
  (195, 2, 2, [(11, 199, [1269, 1271, 33, 50])]),
  (199, 2, 1, [(11, 208, [1306, 1308, 34, 50])]),
  (203, 0, 1, [(0, 210, [1314, 1315, 50])]),
  (206, 2, 2, [(11, 212, [1326, 1328, 36, 50])]),
  (209, 2, 4, [(11, 213, [1322, 1324, 35, 50])]),
  (213, 0, 2, [(0, 215, [1338, 1339, 50])]),
  (219, 0, 3, [(0, 216, [1335, 1336, 50])]),
  (229, 2, 1, [(11, 221, [1357, 1359, 37, 50])]),
  (239, 0, 1, [(0, 227, [1063, 1064, 50])]),
  (242, 0, 2, [(0, 235, [1404, 1405, 50])])]
def jm_c13 : List (Nat × jm_CE) := []
def jm_c14 : List (Nat × jm_CE) := []
def jm_cs : List (List (Nat × jm_CE)) := [jm_c0, jm_c1, jm_c2, jm_c3, jm_c4, jm_c5, jm_c6, jm_c7, jm_c8, jm_c9, jm_c10, jm_c11, jm_c12, jm_c13, jm_c14]
end
section
set_option maxRecDepth 100000 in
theorem jm_is0_ok : (jm_is0.zip jm_mt0).all (fun q => q.1.all (jm_inok (jm_con.getD q.2.2.2.2.2.2.2 []) q.2.2.1)) = true := by decide +kernel
set_option maxRecDepth 100000 in
theorem jm_is1_ok : (jm_is1.zip jm_mt1).all (fun q => q.1.all (jm_inok (jm_con.getD q.2.2.2.2.2.2.2 []) q.2.2.1)) = true := by decide +kernel
set_option maxRecDepth 100000 in
theorem jm_is2_ok : (jm_is2.zip jm_mt2).all (fun q => q.1.all (jm_inok (jm_con.getD q.2.2.2.2.2.2.2 []) q.2.2.1)) = true := by decide +kernel
set_option maxRecDepth 100000 in
theorem jm_is3_ok : (jm_is3.zip jm_mt3).all (fun q => q.1.all (jm_inok (jm_con.getD q.2.2.2.2.2.2.2 []) q.2.2.1)) = true := by decide +kernel
set_option maxRecDepth 100000 in
theorem jm_is4_ok : (jm_is4.zip jm_mt4).all (fun q => q.1.all (jm_inok (jm_con.getD q.2.2.2.2.2.2.2 []) q.2.2.1)) = true := by decide +kernel
set_option maxRecDepth 100000 in
theorem jm_is5_ok : (jm_is5.zip jm_mt5).all (fun q => q.1.all (jm_inok (jm_con.getD q.2.2.2.2.2.2.2 []) q.2.2.1)) = true := by decide +kernel
set_option maxRecDepth 100000 in
theorem jm_is6_ok : (jm_is6.zip jm_mt6).all (fun q => q.1.all (jm_inok (jm_con.getD q.2.2.2.2.2.2.2 []) q.2.2.1)) = true := by decide +kernel
set_option maxRecDepth 100000 in
theorem jm_is7_ok : (jm_is7.zip jm_mt7).all (fun q => q.1.all (jm_inok (jm_con.getD q.2.2.2.2.2.2.2 []) q.2.2.1)) = true := by decide +kernel
set_option maxRecDepth 100000 in
theorem jm_is8_ok : (jm_is8.zip jm_mt8).all (fun q => q.1.all (jm_inok (jm_con.getD q.2.2.2.2.2.2.2 []) q.2.2.1)) = true := by decide +kernel
set_option maxRecDepth 100000 in
theorem jm_is9_ok : (jm_is9.zip jm_mt9).all (fun q => q.1.all (jm_inok (jm_con.getD q.2.2.2.2.2.2.2 []) q.2.2.1)) = true := by decide +kernel
end
section
set_option maxRecDepth 100000 in
theorem jm_mt0_ok : (jm_mt0.zip [438, 399, 465, 490, 860, 966, 299, 341, 349, 345, 494, 594, 361, 321, 331, 353, 631, 365, 369, 730, 373, 449, 472, 498, 403]).all jm_mtok = true := by decide +kernel
set_option maxRecDepth 100000 in
theorem jm_mt1_ok : (jm_mt1.zip [377, 476, 785, 525, 655, 717, 585, 417, 435, 410, 384, 836, 413, 839, 388, 844, 793, 798, 806, 288, 824, 284, 816, 703, 424]).all jm_mtok = true := by decide +kernel
set_option maxRecDepth 100000 in
theorem jm_mt2_ok : (jm_mt2.zip [459, 486, 847, 392, 854, 959, 291, 502, 280, 305, 308, 324, 334, 337, 356, 311, 431, 395, 857, 963, 428, 464, 850, 263, 295]).all jm_mtok = true := by decide +kernel
set_option maxRecDepth 100000 in
theorem jm_mt3_ok : (jm_mt3.zip [506, 514, 520, 529, 538, 544, 550, 554, 558, 570, 581, 589, 598, 602, 606, 610, 614, 618, 622, 627, 635, 639, 643, 647, 651]).all jm_mtok = true := by decide +kernel
set_option maxRecDepth 100000 in
theorem jm_mt4_ok : (jm_mt4.zip [660, 664, 668, 672, 676, 683, 686, 691, 695, 699, 709, 713, 721, 726, 733, 743, 736, 739, 747, 751, 756, 760, 763, 767, 773]).all jm_mtok = true := by decide +kernel
set_option maxRecDepth 100000 in
theorem jm_mt5_ok : (jm_mt5.zip [777, 781, 789, 802, 811, 820, 829, 577, 267, 533, 271, 277, 274, 317, 327, 314, 573, 468, 1068, 1145, 1136, 1083, 1097, 1104, 1108]).all jm_mtok = true := by decide +kernel
set_option maxRecDepth 100000 in
theorem jm_mt6_ok : (jm_mt6.zip [1112, 1090, 1228, 1206, 1151, 1133, 1139, 1130, 1142, 1148, 1157, 1154, 1127, 1124, 1121, 1203, 1115, 1118, 1076, 1080, 1072, 1094, 1101, 1087, 1058]).all jm_mtok = true := by decide +kernel
set_option maxRecDepth 100000 in
theorem jm_mt7_ok : (jm_mt7.zip [1161, 1165, 1172, 1169, 1176, 1184, 1188, 1192, 1196, 1200, 1214, 1210, 1221, 1218, 1225, 1232, 1244, 1240, 1236, 1248, 1257, 1253, 1261, 1268, 1272]).all jm_mtok = true := by decide +kernel
set_option maxRecDepth 100000 in
theorem jm_mt8_ok : (jm_mt8.zip [1265, 1276, 1280, 1284, 1289, 1293, 1297, 1301, 1309, 1305, 1316, 1313, 1329, 1325, 1321, 1340, 1337, 1333, 1344, 1348, 1352, 1360, 1356, 1367, 1371]).all jm_mtok = true := by decide +kernel
set_option maxRecDepth 100000 in
theorem jm_mt9_ok : (jm_mt9.zip [1375, 1379, 1065, 1062, 1180, 1383, 1387, 1391, 1395, 1399, 1406, 1403, 1410, 563, 679]).all jm_mtok = true := by decide +kernel
set_option maxRecDepth 100000 in
theorem jm_own_ok : jm_mt.all (fun r => decide (jm_on[r.2.2.2.2.2.2]? = some r.1.cls)) = true := by decide +kernel
set_option maxRecDepth 100000 in
theorem jm_fl_ok : (jm_fl.zip jm_on).all (fun q => q.1.all (jm_flok q.2)) = true := by decide +kernel
set_option maxRecDepth 100000 in
theorem jm_con_ok : (jm_con.zip jm_on).all (fun q => q.1.all (jm_conok q.2)) = true := by decide +kernel
set_option maxRecDepth 100000 in
theorem jm_conL_ok : (jm_conL.zip jm_on).all (fun q => q.1.all (jm_conLok q.2)) = true := by decide +kernel
set_option maxRecDepth 100000 in
theorem jm_acp_ok : (jm_acp.zip jm_on).all (fun q => q.1.all (jm_acpok q.2)) = true := by decide +kernel
set_option maxRecDepth 100000 in
theorem jm_mth_ok : (jm_mth.zip jm_on).all (fun q => q.1.all (jm_mthok q.2)) = true := by decide +kernel
set_option maxRecDepth 100000 in
theorem jm_sys_ok : (jm_at 302 (.native arraycopyName) && jm_at 301 (.static arraycopyName) && jm_at 52 (.initialized "java/lang/System")) = true := by decide +kernel
set_option maxRecDepth 100000 in
theorem jm_c0_ok : jm_c0.all (jm_cok jm_mt "PapersAreOnCats$Cat") = true := by decide +kernel
set_option maxRecDepth 100000 in
theorem jm_c1_ok : jm_c1.all (jm_cok jm_mt "PapersAreOnCats$Frontier") = true := by decide +kernel
set_option maxRecDepth 100000 in
theorem jm_c2_ok : jm_c2.all (jm_cok jm_mt "PapersAreOnCats$Kitten") = true := by decide +kernel
set_option maxRecDepth 100000 in
theorem jm_c3_ok : jm_c3.all (jm_cok jm_mt "PapersAreOnCats$Mouser") = true := by decide +kernel
set_option maxRecDepth 100000 in
theorem jm_c4_ok : jm_c4.all (jm_cok jm_mt "PapersAreOnCats$Old") = true := by decide +kernel
set_option maxRecDepth 100000 in
theorem jm_c5_ok : jm_c5.all (jm_cok jm_mt "PapersAreOnCats$Shelf") = true := by decide +kernel
set_option maxRecDepth 100000 in
theorem jm_c6_ok : jm_c6.all (jm_cok jm_mt "PapersAreOnCats$Shell") = true := by decide +kernel
set_option maxRecDepth 100000 in
theorem jm_c7_ok : jm_c7.all (jm_cok jm_mt "PapersAreOnCats$Spy") = true := by decide +kernel
set_option maxRecDepth 100000 in
theorem jm_c8_ok : jm_c8.all (jm_cok jm_mt "PapersAreOnCats$Text") = true := by decide +kernel
set_option maxRecDepth 100000 in
theorem jm_c9_ok : jm_c9.all (jm_cok jm_mt "PapersAreOnCats$Tom") = true := by decide +kernel
set_option maxRecDepth 100000 in
theorem jm_c10_ok : jm_c10.all (jm_cok jm_mt "PapersAreOnCats$White") = true := by decide +kernel
set_option maxRecDepth 100000 in
theorem jm_c11_ok : jm_c11.all (jm_cok jm_mt "PapersAreOnCats") = true := by decide +kernel
set_option maxRecDepth 100000 in
theorem jm_c12_ok : jm_c12.all (jm_cok jm_mt "PapersAreOnCatsModel") = true := by decide +kernel
set_option maxRecDepth 100000 in
theorem jm_c13_ok : jm_c13.all (jm_cok jm_mt "java/lang/Integer") = true := by decide +kernel
set_option maxRecDepth 100000 in
theorem jm_c14_ok : jm_c14.all (jm_cok jm_mt "java/util/Arrays") = true := by decide +kernel
theorem jm_is_all : (jm_is.zip jm_mt).all (fun q => q.1.all (jm_inok (jm_con.getD q.2.2.2.2.2.2.2 []) q.2.2.1)) = true := by
  unfold jm_is jm_mt
  rw [List.zip_append (by rfl), List.all_append, jm_is0_ok, Bool.true_and]
  rw [List.zip_append (by rfl), List.all_append, jm_is1_ok, Bool.true_and]
  rw [List.zip_append (by rfl), List.all_append, jm_is2_ok, Bool.true_and]
  rw [List.zip_append (by rfl), List.all_append, jm_is3_ok, Bool.true_and]
  rw [List.zip_append (by rfl), List.all_append, jm_is4_ok, Bool.true_and]
  rw [List.zip_append (by rfl), List.all_append, jm_is5_ok, Bool.true_and]
  rw [List.zip_append (by rfl), List.all_append, jm_is6_ok, Bool.true_and]
  rw [List.zip_append (by rfl), List.all_append, jm_is7_ok, Bool.true_and]
  rw [List.zip_append (by rfl), List.all_append, jm_is8_ok, Bool.true_and]
  exact jm_is9_ok
theorem jm_mt_all : ∀ r ∈ jm_mt, ∃ i, jm_mtok (r, i) = true := by
  have key : ∀ (l : List jm_MT) (ps : List Nat), l.length = ps.length → (l.zip ps).all jm_mtok = true → ∀ r ∈ l, ∃ i, jm_mtok (r, i) = true := by
    intro l ps hl h r hr
    obtain ⟨k, hk, rfl⟩ := List.mem_iff_getElem.mp hr
    refine ⟨ps[k]'(hl ▸ hk), ?_⟩
    refine List.all_eq_true.mp h _ (List.mem_iff_getElem.mpr ⟨k, by simp; omega, by simp⟩)
  intro r hr
  unfold jm_mt at hr
  simp only [List.mem_append] at hr
  rcases hr with hr | hr | hr | hr | hr | hr | hr | hr | hr | hr
  · exact key _ _ rfl jm_mt0_ok r hr
  · exact key _ _ rfl jm_mt1_ok r hr
  · exact key _ _ rfl jm_mt2_ok r hr
  · exact key _ _ rfl jm_mt3_ok r hr
  · exact key _ _ rfl jm_mt4_ok r hr
  · exact key _ _ rfl jm_mt5_ok r hr
  · exact key _ _ rfl jm_mt6_ok r hr
  · exact key _ _ rfl jm_mt7_ok r hr
  · exact key _ _ rfl jm_mt8_ok r hr
  · exact key _ _ rfl jm_mt9_ok r hr
theorem jm_cs_all : (jm_cs.zip jm_on).all (fun q => q.1.all (jm_cok jm_mt q.2)) = true := by
  show ([(jm_c0, "PapersAreOnCats$Cat"), (jm_c1, "PapersAreOnCats$Frontier"), (jm_c2, "PapersAreOnCats$Kitten"), (jm_c3, "PapersAreOnCats$Mouser"), (jm_c4, "PapersAreOnCats$Old"), (jm_c5, "PapersAreOnCats$Shelf"), (jm_c6, "PapersAreOnCats$Shell"), (jm_c7, "PapersAreOnCats$Spy"), (jm_c8, "PapersAreOnCats$Text"), (jm_c9, "PapersAreOnCats$Tom"), (jm_c10, "PapersAreOnCats$White"), (jm_c11, "PapersAreOnCats"), (jm_c12, "PapersAreOnCatsModel"), (jm_c13, "java/lang/Integer"), (jm_c14, "java/util/Arrays")] : List (List (Nat × jm_CE) × String)).all (fun q => q.1.all (jm_cok jm_mt q.2)) = true
  simp only [List.all_cons, List.all_nil, Bool.and_true, Bool.and_eq_true]
  exact ⟨jm_c0_ok, jm_c1_ok, jm_c2_ok, jm_c3_ok, jm_c4_ok, jm_c5_ok, jm_c6_ok, jm_c7_ok, jm_c8_ok, jm_c9_ok, jm_c10_ok, jm_c11_ok, jm_c12_ok, jm_c13_ok, jm_c14_ok⟩
end
section
/-! THE SMALL MACHINE: its steps. A cell's key: (kind of cell, number, part). Values: an int, a long, a cell. -/
abbrev jm_K : Type := Nat × Nat × Nat
abbrev jm_M : Type := jm_K → Nat → Int32
abbrev jm_V : Type := Int32 ⊕ (Int64 ⊕ jm_K)
abbrev jm_L : Type := List (Nat × jm_V)
abbrev jm_F : Type := Nat × jm_L × List jm_V × jm_M
/-- a shape: an object (number of its class; its slots: a cell for ever, or an int), a row of ints (its length), a row of cells (its type, length, which) -/
abbrev jm_SH : Type := (Nat × List (Option jm_K)) ⊕ (Nat ⊕ (Nat × Nat × (Nat → jm_K)))
abbrev jm_i (x : Int32) : jm_V := .inl x
abbrev jm_l (x : Int64) : jm_V := .inr (.inl x)
abbrev jm_r (t j k : Nat) : jm_V := .inr (.inr (t, j, k))
def jm_set (h : jm_M) (c : jm_K) (f : Nat → Int32) : jm_M := fun a => if a = c then f else h a
/-- the classes of the kinds of cats -/
def jm_kc : List Nat := [0, 3, 8, 9, 2, 6, 7, 4]
def jm_sh (c : jm_K) : Option jm_SH := match c.1 with
  | 0 => (match c.2.2 with
    | 0 => some (.inl (10, [some (0, 0, 1), some (2, 0, 0), some (2, 1, 0), some (2, 2, 0), none, some (0, 0, 2), some (0, 0, 3)]))
    | 1 => some (.inr (.inr (1, 8, fun i => (1, i, 0))))
    | 2 => some (.inr (.inr (2, 8, fun i => (3, i, 0))))
    | 3 => some (.inr (.inl 16))
    | _ => none)
  | 1 => (match jm_kc[c.2.1]? with
    | some ci => some (.inl (ci, []))
    | none => none)
  | 2 => (match c.2.2 with
    | 0 => some (.inl (1, [some (0, 0, 1), some (2, c.2.1, 1), some (2, c.2.1, 2), some (2, c.2.1, 3), some (2, c.2.1, 4), some (2, c.2.1, 5), some (2, c.2.1, 6), some (6, c.2.1, 0), some (6, c.2.1, 1), none, none, none, none, none, none]))
    | _ => some (.inr (.inl 6)))
  | 3 => (match c.2.2 with
    | 0 => some (.inl (5, [none, none, none, none, none, some (3, c.2.1, 1)]))
    | _ => some (.inr (.inl 100)))
  | 4 => (match c.2.2 with
    | 0 => some (.inl (11, [some (5, 0, 0), some (5, 1, 0), some (5, 2, 0), some (5, 3, 0), none, none, none, none, some (4, 0, 1), some (4, 0, 2), none, some (4, 0, 3), some (4, 0, 4), some (4, 0, 5), some (4, 0, 6), some (4, 0, 7), some (4, 0, 8), none]))
    | 1 => some (.inr (.inl 3))
    | 2 => some (.inr (.inl 16))
    | 8 => some (.inr (.inl 800))
    | _ => some (.inr (.inl 8)))
  | 5 => some (.inr (.inl 78))
  | _ => some (.inr (.inl 16))
/-- all the cells -/
def jm_ks : List jm_K := [(0, 0, 0), (0, 0, 1), (0, 0, 2), (0, 0, 3), (1, 0, 0), (1, 1, 0), (1, 2, 0), (1, 3, 0), (1, 4, 0), (1, 5, 0), (1, 6, 0), (1, 7, 0),
  (2, 0, 0), (2, 0, 1), (2, 0, 2), (2, 0, 3), (2, 0, 4), (2, 0, 5), (2, 0, 6), (6, 0, 0), (6, 0, 1),
  (2, 1, 0), (2, 1, 1), (2, 1, 2), (2, 1, 3), (2, 1, 4), (2, 1, 5), (2, 1, 6), (6, 1, 0), (6, 1, 1),
  (2, 2, 0), (2, 2, 1), (2, 2, 2), (2, 2, 3), (2, 2, 4), (2, 2, 5), (2, 2, 6), (6, 2, 0), (6, 2, 1),
  (3, 0, 0), (3, 0, 1), (3, 1, 0), (3, 1, 1), (3, 2, 0), (3, 2, 1), (3, 3, 0), (3, 3, 1), (3, 4, 0), (3, 4, 1), (3, 5, 0), (3, 5, 1), (3, 6, 0), (3, 6, 1), (3, 7, 0), (3, 7, 1),
  (4, 0, 0), (5, 0, 0), (5, 1, 0), (5, 2, 0), (5, 3, 0), (4, 0, 1), (4, 0, 2), (4, 0, 3), (4, 0, 4), (4, 0, 5), (4, 0, 6), (4, 0, 7), (4, 0, 8)]
/-- the slots that hold a boolean -/
def jm_bo (ci k : Nat) : Bool := (ci == 10 || ci == 11) && k == 4
def jm_cat : jm_V → Nat
  | .inr (.inl _) => 2
  | _ => 1
def jm_lk {α : Type} (t : List (List (Nat × α))) (own idx : Nat) : Option α := match t[own]? with
  | some l => l.lookup idx
  | none => none
def jm_put1 (i : Nat) (v : jm_V) (L : jm_L) : jm_L := (i, v) :: L.filter (fun q => !(q.1 == i) && !(q.1 + 1 == i && jm_cat q.2 == 2))
def jm_put2 (i : Nat) (v : jm_V) (L : jm_L) : jm_L := (i, v) :: L.filter (fun q => !(q.1 == i) && (!(q.1 == i + 1) && !(q.1 + 1 == i && jm_cat q.2 == 2)))
def jm_tg (pc : Nat) (off : Int) : Nat := ((pc : Int) + off).toNat
def jm_br (c : ClassFile.Cond) (x y : Int32) (t e : Nat) : Nat := match c with
  | .eq => if x = y then t else e
  | .ne => if x = y then e else t
  | .lt => if x < y then t else e
  | .ge => if y ≤ x then t else e
  | .gt => if y < x then t else e
  | .le => if x ≤ y then t else e
def jm_ts (pc : Nat) (d : Int) (x : Int32) : Int → List Int → Nat
  | _, [] => jm_tg pc d
  | k, o :: t => if x = Int32.ofInt k then jm_tg pc o else jm_ts pc d x (k + 1) t
def jm_ls (pc : Nat) (d : Int) (x : Int32) : List (Int × Int) → Nat
  | [] => jm_tg pc d
  | q :: t => if x = Int32.ofInt q.1 then jm_tg pc q.2 else jm_ls pc d x t
/-- loads: the local's value, if it is of the wanted sort (0 int, 1 long, 2 cell) -/
def jm_ld (w i n : Nat) (f : jm_F) : Option (Option Prop × jm_F) := match w, f.2.1.lookup i with
  | 0, some (.inl x) => some (none, f.1 + n, f.2.1, .inl x :: f.2.2.1, f.2.2.2)
  | 1, some (.inr (.inl x)) => some (none, f.1 + n, f.2.1, .inr (.inl x) :: f.2.2.1, f.2.2.2)
  | 2, some (.inr (.inr x)) => some (none, f.1 + n, f.2.1, .inr (.inr x) :: f.2.2.1, f.2.2.2)
  | _, _ => none
def jm_sto (w i n : Nat) (f : jm_F) : Option (Option Prop × jm_F) := match w, f.2.2.1 with
  | 0, .inl x :: st => some (none, f.1 + n, jm_put1 i (.inl x) f.2.1, st, f.2.2.2)
  | 1, .inr (.inl x) :: st => some (none, f.1 + n, jm_put2 i (.inr (.inl x)) f.2.1, st, f.2.2.2)
  | 2, .inr (.inr x) :: st => some (none, f.1 + n, jm_put1 i (.inr (.inr x)) f.2.1, st, f.2.2.2)
  | _, _ => none
def jm_ii (g : Int32 → Int32 → Int32) (q : Int32 → Option Prop) (f : jm_F) : Option (Option Prop × jm_F) := match f.2.2.1 with
  | .inl y :: .inl x :: st => some (q y, f.1 + 1, f.2.1, .inl (g x y) :: st, f.2.2.2)
  | _ => none
def jm_ll (g : Int64 → Int64 → Int64) (q : Int64 → Option Prop) (f : jm_F) : Option (Option Prop × jm_F) := match f.2.2.1 with
  | .inr (.inl y) :: .inr (.inl x) :: st => some (q y, f.1 + 1, f.2.1, .inr (.inl (g x y)) :: st, f.2.2.2)
  | _ => none
def jm_u1 (g : Int32 → Int32) (f : jm_F) : Option (Option Prop × jm_F) := match f.2.2.1 with
  | .inl x :: st => some (none, f.1 + 1, f.2.1, .inl (g x) :: st, f.2.2.2)
  | _ => none
def jm_getf (own idx : Nat) (f : jm_F) : Option (Option Prop × jm_F) := match f.2.2.1 with
  | .inr (.inr c) :: st => (match jm_lk jm_fl own idx, jm_sh c with
    | some (ci, k, _), some (.inl (ci', fs)) => if ci = ci' then (match fs[k]? with
      | some (some q) => some (none, f.1 + 3, f.2.1, .inr (.inr q) :: st, f.2.2.2)
      | some none => some (none, f.1 + 3, f.2.1, .inl (f.2.2.2 c k) :: st, f.2.2.2)
      | none => none) else none
    | _, _ => none)
  | _ => none
def jm_putf (own idx : Nat) (f : jm_F) : Option (Option Prop × jm_F) := match f.2.2.1 with
  | .inl v :: .inr (.inr c) :: st => (match jm_lk jm_fl own idx, jm_sh c with
    | some (ci, k, _), some (.inl (ci', fs)) => if ci = ci' then (match fs[k]? with
      | some none => some (if jm_bo ci k = true then some (v = 0 ∨ v = 1) else none, f.1 + 3, f.2.1, st, jm_set f.2.2.2 c (upd (f.2.2.2 c) k v))
      | _ => none) else none
    | _, _ => none)
  | _ => none
def jm_iald (f : jm_F) : Option (Option Prop × jm_F) := match f.2.2.1 with
  | .inl i :: .inr (.inr c) :: st => (match jm_sh c with
    | some (.inr (.inl n)) => some (some (vp_in i n), f.1 + 1, f.2.1, .inl (f.2.2.2 c i.toNatClampNeg) :: st, f.2.2.2)
    | _ => none)
  | _ => none
def jm_iast (f : jm_F) : Option (Option Prop × jm_F) := match f.2.2.1 with
  | .inl v :: .inl i :: .inr (.inr c) :: st => (match jm_sh c with
    | some (.inr (.inl n)) => some (some (vp_in i n), f.1 + 1, f.2.1, st, jm_set f.2.2.2 c (upd (f.2.2.2 c) i.toNatClampNeg v))
    | _ => none)
  | _ => none
def jm_aald (f : jm_F) : Option (Option Prop × jm_F) := match f.2.2.1 with
  | .inl i :: .inr (.inr c) :: st => (match jm_sh c with
    | some (.inr (.inr (_, n, g))) => some (some (vp_in i n), f.1 + 1, f.2.1, .inr (.inr (g i.toNatClampNeg)) :: st, f.2.2.2)
    | _ => none)
  | _ => none
def jm_alen (f : jm_F) : Option (Option Prop × jm_F) := match f.2.2.1 with
  | .inr (.inr c) :: st => (match jm_sh c with
    | some (.inr (.inl n)) => some (none, f.1 + 1, f.2.1, .inl (Int32.ofNat n) :: st, f.2.2.2)
    | _ => none)
  | _ => none
def jm_wsum (st : List jm_V) : Nat := (st.map jm_cat).sum
/-- System.arraycopy over rows of ints, Math.max, min, abs -/
def jm_lib (own idx : Nat) (f : jm_F) : Option (Option Prop × jm_F) := match jm_lk jm_acp own idx, jm_lk jm_mth own idx, f.2.2.1 with
  | some _, _, .inl n :: .inl dp :: .inr (.inr c1) :: .inl sp :: .inr (.inr c0) :: st => (match jm_sh c0, jm_sh c1 with
    | some (.inr (.inl n0)), some (.inr (.inl n1)) => if jm_wsum st ≤ 8 then some (some (¬ sp < 0 ∧ ¬ dp < 0 ∧ ¬ n < 0 ∧ sp.toNatClampNeg + n.toNatClampNeg ≤ n0 ∧ dp.toNatClampNeg + n.toNatClampNeg ≤ n1), f.1 + 3, f.2.1, st, jm_set f.2.2.2 c1 (va_cpy (f.2.2.2 c0) (f.2.2.2 c1) sp.toNatClampNeg dp.toNatClampNeg n.toNatClampNeg)) else none
    | _, _ => none)
  | none, some (0, _), .inl y :: .inl x :: st => if jm_wsum st ≤ 8 then some (none, f.1 + 3, f.2.1, .inl (if x < y then y else x) :: st, f.2.2.2) else none
  | none, some (1, _), .inl y :: .inl x :: st => if jm_wsum st ≤ 8 then some (none, f.1 + 3, f.2.1, .inl (if y < x then y else x) :: st, f.2.2.2) else none
  | none, some (2, _), .inl x :: st => if jm_wsum st ≤ 8 then some (none, f.1 + 3, f.2.1, .inl (if 0 ≤ x then x else 0 - x) :: st, f.2.2.2) else none
  | _, _, _ => none
def jm_step (own : Nat) (i : Instr) (n : Nat) (v : Int32) (f : jm_F) : Option (Option Prop × jm_F) := match i with
  | .iconst _ | .bipush _ | .sipush _ | .ldc _ | .ldc_w _ => some (none, f.1 + n, f.2.1, .inl v :: f.2.2.1, f.2.2.2)
  | .lconst k => some (none, f.1 + n, f.2.1, .inr (.inl (Int64.ofNat (k : Nat))) :: f.2.2.1, f.2.2.2)
  | .ldc2_w idx => (match jm_lk jm_conL own idx with
    | some (x, _) => some (none, f.1 + n, f.2.1, .inr (.inl x) :: f.2.2.1, f.2.2.2)
    | none => none)
  | .iload k => jm_ld 0 k n f
  | .iload_n k => jm_ld 0 k n f
  | .lload k => jm_ld 1 k n f
  | .lload_n k => jm_ld 1 k n f
  | .aload k => jm_ld 2 k n f
  | .aload_n k => jm_ld 2 k n f
  | .istore k => jm_sto 0 k n f
  | .istore_n k => jm_sto 0 k n f
  | .lstore k => jm_sto 1 k n f
  | .lstore_n k => jm_sto 1 k n f
  | .astore k => jm_sto 2 k n f
  | .astore_n k => jm_sto 2 k n f
  | .iinc k _ => (match f.2.1.lookup k with
    | some (.inl x) => some (none, f.1 + n, jm_put1 k (.inl (x + v)) f.2.1, f.2.2.1, f.2.2.2)
    | _ => none)
  | .iadd => jm_ii (fun x y => x + y) (fun _ => none) f
  | .isub => jm_ii (fun x y => x - y) (fun _ => none) f
  | .imul => jm_ii (fun x y => x * y) (fun _ => none) f
  | .iand => jm_ii (fun x y => x &&& y) (fun _ => none) f
  | .ior => jm_ii (fun x y => x ||| y) (fun _ => none) f
  | .ixor => jm_ii (fun x y => x ^^^ y) (fun _ => none) f
  | .ishl => jm_ii (fun x y => x <<< (y &&& 31)) (fun _ => none) f
  | .ishr => jm_ii (fun x y => x >>> (y &&& 31)) (fun _ => none) f
  | .iushr => jm_ii (fun x y => (x.toUInt32 >>> (y.toUInt32 &&& Int32.toUInt32 31)).toInt32) (fun _ => none) f
  | .idiv => jm_ii (fun x y => x / y) (fun y => some (¬ y = 0)) f
  | .irem => jm_ii (fun x y => x - x / y * y) (fun y => some (¬ y = 0)) f
  | .ineg => jm_u1 (fun x => -x) f
  | .i2b => jm_u1 (fun x => x.toInt8.toInt32) f
  | .i2s => jm_u1 (fun x => x.toInt16.toInt32) f
  | .i2l => (match f.2.2.1 with
    | .inl x :: st => some (none, f.1 + 1, f.2.1, .inr (.inl x.toInt64) :: st, f.2.2.2)
    | _ => none)
  | .ladd => jm_ll (fun x y => x + y) (fun _ => none) f
  | .lmul => jm_ll (fun x y => x * y) (fun _ => none) f
  | .ldiv => jm_ll (fun x y => x / y) (fun y => some (¬ y = 0)) f
  | .lrem => jm_ll (fun x y => x - x / y * y) (fun y => some (¬ y = 0)) f
  | .lcmp => (match f.2.2.1 with
    | .inr (.inl y) :: .inr (.inl x) :: st => some (none, f.1 + 1, f.2.1, .inl (lg_cmp x y) :: st, f.2.2.2)
    | _ => none)
  | .dup => (match f.2.2.1 with
    | .inl x :: st => some (none, f.1 + 1, f.2.1, .inl x :: .inl x :: st, f.2.2.2)
    | .inr (.inr x) :: st => some (none, f.1 + 1, f.2.1, .inr (.inr x) :: .inr (.inr x) :: st, f.2.2.2)
    | _ => none)
  | .pop => (match f.2.2.1 with
    | .inl _ :: st => some (none, f.1 + 1, f.2.1, st, f.2.2.2)
    | _ => none)
  | .dup2 => (match f.2.2.1 with
    | .inl y :: .inr (.inr x) :: st => some (none, f.1 + 1, f.2.1, .inl y :: .inr (.inr x) :: .inl y :: .inr (.inr x) :: st, f.2.2.2)
    | _ => none)
  | .goto o => some (none, jm_tg f.1 o, f.2.1, f.2.2.1, f.2.2.2)
  | .ifCond c o => (match f.2.2.1 with
    | .inl x :: st => some (none, jm_br c x 0 (jm_tg f.1 o) (f.1 + 3), f.2.1, st, f.2.2.2)
    | _ => none)
  | .if_icmp c o => (match f.2.2.1 with
    | .inl y :: .inl x :: st => some (none, jm_br c x y (jm_tg f.1 o) (f.1 + 3), f.2.1, st, f.2.2.2)
    | _ => none)
  | .tableswitch d lo _ os => (match f.2.2.1 with
    | .inl x :: st => some (none, jm_ts f.1 d x lo os.toList, f.2.1, st, f.2.2.2)
    | _ => none)
  | .lookupswitch d ps => (match f.2.2.1 with
    | .inl x :: st => some (none, jm_ls f.1 d x ps.toList, f.2.1, st, f.2.2.2)
    | _ => none)
  | .getfield idx => jm_getf own idx f
  | .putfield idx => jm_putf own idx f
  | .iaload => jm_iald f
  | .iastore => jm_iast f
  | .aaload => jm_aald f
  | .arraylength => jm_alen f
  | .invokestatic idx => jm_lib own idx f
  | _ => none
/-- a call: the method run, its arguments (the receiver first), what stays on the stack -/
def jm_call (own : Nat) (i : Instr) (st : List jm_V) : Option (Nat × List jm_V × List jm_V) := match i with
  | .invokestatic idx => (match jm_lk jm_cs own idx with
    | some (kd, n, [t]) => if kd ≤ 1 ∧ n ≤ st.length then some (t.2.1, (st.take n).reverse, st.drop n) else none
    | _ => none)
  | .invokespecial idx => (match jm_lk jm_cs own idx, st.drop (((jm_lk jm_cs own idx).map (fun q => q.2.1)).getD 0) with
    | some (4, n, [t]), .inr (.inr c) :: r => (match jm_sh c with
      | some (.inl _) => some (t.2.1, .inr (.inr c) :: (st.take n).reverse, r)
      | _ => none)
    | _, _ => none)
  | .invokevirtual idx => (match jm_lk jm_cs own idx, st.drop (((jm_lk jm_cs own idx).map (fun q => q.2.1)).getD 0) with
    | some (kd, n, ts), .inr (.inr c) :: r => (match jm_sh c with
      | some (.inl (ci, _)) => (match ts.lookup ci with
        | some t => if kd = 2 ∨ kd = 3 then some (t.1, .inr (.inr c) :: (st.take n).reverse, r) else none
        | none => none)
      | _ => none)
    | _, _ => none)
  | _ => none
def jm_args : Nat → List jm_V → jm_L
  | _, [] => []
  | i, v :: vs => (i, v) :: jm_args (if jm_cat v = 2 then i + 2 else i + 1) vs
/-- the end of a method: what it returns -/
def jm_ret (ty : Option FieldType) (i : Instr) (st : List jm_V) : Option (Prop × Option jm_V) := match i, ty, st with
  | .return_, none, [] => some (True, none)
  | .ireturn, some .int, [.inl x] => some (True, some (.inl x))
  | .ireturn, some .boolean, [.inl x] => some (x = 0 ∨ x = 1, some (.inl x))
  | .lreturn, some .long, [.inr (.inl x)] => some (True, some (.inr (.inl x)))
  | _, _, _ => none
def jm_fit (r r' : jm_MT) (as rest : List jm_V) : Bool := decide (r'.2.2.2.2.1 + 1 ≤ r.2.2.2.2.1) && decide (8 + (r'.2.2.1 + 11) + r'.2.2.2.2.2.1 ≤ r.2.2.2.2.2.1) && decide (jm_wsum rest ≤ 8) && decide (jm_wsum as ≤ r'.2.2.1)
def jm_pick (l : jm_L) (ks : List Nat) : jm_L := ks.filterMap (fun k => l[k]?)
def jm_hold (c : Option Prop) : Prop := match c with
  | some p => p
  | none => True
/-- in at most n steps, calls and all, the method mi comes from the frame f to its end -/
def jm_Rn : Nat → Nat → jm_F → (Option jm_V × jm_M) → Prop
  | 0, _, _, _ => False
  | n + 1, mi, f, out => (∃ ks : List Nat, jm_Rn n mi (f.1, jm_pick f.2.1 ks, f.2.2) out) ∨
    ∃ (r : jm_MT) (il : List jm_IT) (i : Instr) (len : Nat) (v : Int32), jm_mt[mi]? = some r ∧ jm_is[mi]? = some il ∧ il.lookup f.1 = some (i, len, v) ∧
      ((∃ (c : Option Prop) (f' : jm_F), jm_step r.2.2.2.2.2.2 i len v f = some (c, f') ∧ jm_hold c ∧ jm_Rn n mi f' out) ∨
       (∃ (mi' : Nat) (r' : jm_MT) (as rest : List jm_V) (u : Option jm_V) (h' : jm_M), jm_call r.2.2.2.2.2.2 i f.2.2.1 = some (mi', as, rest) ∧ jm_mt[mi']? = some r' ∧ jm_fit r r' as rest = true ∧ jm_Rn n mi' (0, jm_args 0 as, [], f.2.2.2) (u, h') ∧ jm_Rn n mi (f.1 + 3, f.2.1, u.toList ++ rest, h') out) ∨
       (∃ (c : Prop) (u : Option jm_V), jm_ret r.2.2.2.1 i f.2.2.1 = some (c, u) ∧ c ∧ out = (u, f.2.2.2)))
end
section
/-! THE SMALL MACHINE over the real one: how a memory stands in a heap. -/
def jm_up : List (List Nat) := [[], [176, 178, 180, 182, 184, 186, 188, 190, 192, 194, 196, 198, 200, 202, 204], [], [], [], [225, 227, 229, 231, 233, 235], [], [], [], [], [245, 247, 249, 251, 253, 255, 257], [1018, 1020, 1022, 1024, 1026, 1028, 1030, 1032, 1034, 1036, 1038, 1040, 1042, 1044, 1046, 1048, 1050, 1052]]
set_option maxRecDepth 100000 in
theorem jm_up_ok : (jm_cl0.zip jm_up).all (fun q => ((u_ws q.1.1 q.1.2.1 q.1.2.2).zip q.2).all (fun z => jm_at z.2 z.1) && decide ((u_ws q.1.1 q.1.2.1 q.1.2.2).length = q.2.length)) = true := by decide +kernel
theorem jm_uws {ci : Nat} {q : vw_C} (h : jm_cl0[ci]? = some q) : ∀ w ∈ u_ws q.1 q.2.1 q.2.2, w ∈ jm_T := by
  intro w hw
  have hlt : ci < jm_cl0.length := (List.getElem?_eq_some_iff.mp h).1
  have hl : jm_cl0.length = jm_up.length := rfl
  have hz : (q, jm_up[ci]'(hl ▸ hlt)) ∈ jm_cl0.zip jm_up := List.mem_iff_getElem.mpr ⟨ci, by rw [List.length_zip, ← hl, Nat.min_self]; exact hlt, by rw [List.getElem_zip, (List.getElem?_eq_some_iff.mp h).2]⟩
  have h1 := List.all_eq_true.mp jm_up_ok _ hz
  simp only [Bool.and_eq_true, decide_eq_true_eq] at h1
  obtain ⟨k, hk, rfl⟩ := List.mem_iff_getElem.mp hw
  have h2 := List.all_eq_true.mp h1.1 ((u_ws q.1 q.2.1 q.2.2)[k], (jm_up[ci]'(hl ▸ hlt))[k]'(h1.2 ▸ hk)) (List.mem_iff_getElem.mpr ⟨k, by simp; omega, by simp⟩)
  exact jm_at_T h2
def jm_cv (ad : jm_K → Nat) : jm_V → Value
  | .inl x => .int x
  | .inr (.inl x) => .long x
  | .inr (.inr c) => .ref (ad c)
theorem jm_cv_cat (ad : jm_K → Nat) (v : jm_V) : (jm_cv ad v).category = jm_cat v := by
  rcases v with x | x | x <;> rfl
def jm_cvl (ad : jm_K → Nat) (L : jm_L) : List (Nat × Value) := L.map (fun q => (q.1, jm_cv ad q.2))
theorem jm_cvl_put1 (ad : jm_K → Nat) (i : Nat) (v : jm_V) (L : jm_L) : (i, jm_cv ad v) :: (jm_cvl ad L).filter (fun q => !(q.1 == i) && !(q.1 + 1 == i && q.2.category == 2)) = jm_cvl ad (jm_put1 i v L) := by
  simp only [jm_cvl, jm_put1, List.map_cons, List.filter_map]
  congr 2
  refine congrArg (fun z => List.filter z L) (funext fun q => ?_)
  simp only [Function.comp, jm_cv_cat]
theorem jm_cvl_put2 (ad : jm_K → Nat) (i : Nat) (v : jm_V) (L : jm_L) : (i, jm_cv ad v) :: (jm_cvl ad L).filter (fun q => !(q.1 == i) && (!(q.1 == i + 1) && !(q.1 + 1 == i && q.2.category == 2))) = jm_cvl ad (jm_put2 i v L) := by
  simp only [jm_cvl, jm_put2, List.map_cons, List.filter_map]
  congr 2
  refine congrArg (fun z => List.filter z L) (funext fun q => ?_)
  simp only [Function.comp, jm_cv_cat]
theorem jm_lookup_mem {β : Type} {L : List (Nat × β)} {i : Nat} {v : β} (h : L.lookup i = some v) : (i, v) ∈ L := by
  induction L with
  | nil => simp at h
  | cons q t ih =>
    rw [List.lookup_cons] at h
    by_cases hq : i = q.1
    · have h1 : (i == q.1) = true := by simp [hq]
      rw [h1] at h
      simp at h
      exact List.mem_cons.mpr (Or.inl (by rw [← h, hq]))
    · have h1 : (i == q.1) = false := by simp [hq]
      rw [h1] at h
      exact List.mem_cons.mpr (Or.inr (ih h))
theorem jm_lookup_lv {ad : jm_K → Nat} {L : jm_L} {ls : Array Slot} {nL i : Nat} {v : jm_V} (hl : lv_has ls nL (jm_cvl ad L)) (h : L.lookup i = some v) : ls[i]? = some (.val (jm_cv ad v)) :=
  hl.2.2 (i, jm_cv ad v) (List.mem_map.mpr ⟨(i, v), jm_lookup_mem h, rfl⟩)
/-- what a slot of an object holds, and all of them -/
def jm_slot (ad : jm_K → Nat) (f : Nat → Int32) (fs : List (Option jm_K)) (k : Nat) : Value := match fs[k]? with
  | some (some q) => .ref (ad q)
  | _ => .int (f k)
def jm_fs (ad : jm_K → Nat) (f : Nat → Int32) (fs : List (Option jm_K)) : List Value := (List.range fs.length).map (jm_slot ad f fs)
theorem jm_fs_len (ad : jm_K → Nat) (f : Nat → Int32) (fs : List (Option jm_K)) : (jm_fs ad f fs).length = fs.length := by simp [jm_fs]
theorem jm_fs_get (ad : jm_K → Nat) (f : Nat → Int32) (fs : List (Option jm_K)) {k : Nat} (hk : k < fs.length) : (jm_fs ad f fs)[k]? = some (jm_slot ad f fs k) := by
  simp [jm_fs, List.getElem?_map, List.getElem?_range hk]
theorem jm_slot_up (ad : jm_K → Nat) (f : Nat → Int32) (fs : List (Option jm_K)) {k j : Nat} (v : Int32) (hj : ¬ j = k) : jm_slot ad (upd f k v) fs j = jm_slot ad f fs j := by
  have : upd f k v j = f j := by simp [upd, hj]
  simp only [jm_slot, this]
theorem jm_fs_set (ad : jm_K → Nat) (f : Nat → Int32) (fs : List (Option jm_K)) {k : Nat} (v : Int32) (hk : fs[k]? = some none) : (jm_fs ad f fs).set k (.int v) = jm_fs ad (upd f k v) fs := by
  have hlt : k < fs.length := (List.getElem?_eq_some_iff.mp hk).1
  apply List.ext_getElem?
  intro j
  rw [List.getElem?_set]
  by_cases hj : k = j
  · subst hj
    rw [if_pos rfl, if_pos (by rw [jm_fs_len]; exact hlt), jm_fs_get ad (upd f k v) fs hlt]
    simp [jm_slot, hk, upd]
  · rw [if_neg hj]
    by_cases hjl : j < fs.length
    · rw [jm_fs_get ad f fs hjl, jm_fs_get ad (upd f k v) fs hjl, jm_slot_up ad f fs v (fun h => hj h.symm)]
    · rw [List.getElem?_eq_none (by rw [jm_fs_len]; omega), List.getElem?_eq_none (by rw [jm_fs_len]; omega)]
/-- a cell of the world -/
def jm_E (ad : jm_K → Nat) (cs : Nat → ClassId) (sh : Option jm_SH) (f : Nat → Int32) : va_E := match sh with
  | some (.inl (ci, fs)) => .inr (ci, jm_fs ad f fs)
  | some (.inr (.inl n)) => .inl (cs 0, n, .inl f)
  | some (.inr (.inr (t, n, g))) => .inl (cs t, n, .inr (.inr (.inr (.inr (fun i => some (ad (g i)))))))
  | none => .inl (cs 0, 0, .inl f)
def jm_ws (ad : jm_K → Nat) (cs : Nat → ClassId) (h : jm_M) : va_W := jm_ks.map (fun c => (ad c, jm_E ad cs (jm_sh c) (h c)))
def jm_ty (cs : Nat → ClassId) : List (ClassId × FieldType) := [(cs 0, .int), (cs 1, .object "PapersAreOnCats$Cat"), (cs 2, .object "PapersAreOnCats$Shelf")]
set_option maxRecDepth 100000 in
theorem jm_ks_nd : jm_ks.Nodup := by decide +kernel
theorem jm_nd_inj {α : Type} {l : List α} (hn : l.Nodup) {i j : Nat} (hi : i < l.length) (hj : j < l.length) (h : l[i] = l[j]) : i = j := by
  rcases Nat.lt_trichotomy i j with q | q | q
  · exact absurd h (List.pairwise_iff_getElem.mp hn i j hi hj q)
  · exact q
  · exact absurd h.symm (List.pairwise_iff_getElem.mp hn j i hj hi q)
theorem jm_ws_get {ad : jm_K → Nat} {cs : Nat → ClassId} {h : jm_M} {c : jm_K} (hc : c ∈ jm_ks) : ∃ q0 : Nat, jm_ks[q0]? = some c ∧ (jm_ws ad cs h)[q0]? = some (ad c, jm_E ad cs (jm_sh c) (h c)) := by
  obtain ⟨k, hk⟩ := List.mem_iff_getElem?.mp hc
  exact ⟨k, hk, by simp [jm_ws, List.getElem?_map, hk]⟩
theorem jm_ws_set {ad : jm_K → Nat} {cs : Nat → ClassId} {h : jm_M} {c : jm_K} {q0 : Nat} (hq : jm_ks[q0]? = some c) (f : Nat → Int32) : (jm_ws ad cs h).set q0 (ad c, jm_E ad cs (jm_sh c) f) = jm_ws ad cs (jm_set h c f) := by
  apply List.ext_getElem?
  intro j
  have hlt : q0 < jm_ks.length := (List.getElem?_eq_some_iff.mp hq).1
  rw [List.getElem?_set]
  by_cases hj : q0 = j
  · subst hj
    rw [if_pos rfl, if_pos (by simp only [jm_ws, List.length_map]; exact hlt)]
    simp only [jm_ws, List.getElem?_map, hq, Option.map_some, jm_set, if_pos]
  · rw [if_neg hj]
    simp only [jm_ws, List.getElem?_map]
    cases hjk : jm_ks[j]? with
    | none => rfl
    | some c2 =>
      have hne : ¬ c2 = c := by
        intro he
        subst he
        obtain ⟨l1, e1⟩ := List.getElem?_eq_some_iff.mp hq
        obtain ⟨l2, e2⟩ := List.getElem?_eq_some_iff.mp hjk
        exact hj (jm_nd_inj jm_ks_nd l1 l2 (e1.trans e2.symm))
      simp only [Option.map_some, jm_set, if_neg hne]
/-- all cells that the values name are there -/
def jm_okv (v : jm_V) : Prop := match v with
  | .inr (.inr c) => c ∈ jm_ks
  | _ => True
def jm_oks (st : List jm_V) : Prop := ∀ v ∈ st, jm_okv v
def jm_okl (L : jm_L) : Prop := ∀ q ∈ L, jm_okv q.2
/-- an object's own cells are there, where it is there; a row's too -/
def jm_clo (c : jm_K) : Bool := match jm_sh c with
  | some (.inl (_, fs)) => fs.all (fun q => match q with
    | some d => decide (d ∈ jm_ks)
    | none => true)
  | some (.inr (.inr (_, n, g))) => (List.range n).all (fun i => decide (g i ∈ jm_ks))
  | _ => true
set_option maxRecDepth 100000 in
theorem jm_clo_ok : jm_ks.all jm_clo = true := by decide +kernel
/-- the classes of the objects: a number of the list; their slots in number; an int slot is no final one, and of type int or boolean -/
def jm_sho (c : jm_K) : Bool := match jm_sh c with
  | some (.inl (ci, fs)) => (match jm_cl0[ci]? with
    | some q => decide (q.2.2 = fs.length) && (List.range fs.length).all (fun k => match fs[k]? with
      | some none => decide ((q.2.1 k).2.2.2 = false) && decide (parseFieldDescriptor (q.2.1 k).2.2.1 = some (if jm_bo ci k = true then FieldType.boolean else FieldType.int))
      | _ => true)
    | none => false)
  | some (.inr (.inl n)) => decide (n < 2147483648)
  | some (.inr (.inr (t, n, _))) => (t == 1 || t == 2) && decide (n < 2147483648)
  | none => false
set_option maxRecDepth 100000 in
theorem jm_sho_ok : jm_ks.all jm_sho = true := by decide +kernel
def jm_Wd (D : va_G) (A : Nat → Prop) (ad : jm_K → Nat) (cs : Nat → ClassId) (h : jm_M) (U : State) : Prop := va_P D jm_cl0 (jm_ws ad cs h) U.heap ∧ va_K D jm_cl0 (jm_ty cs) U ∧ va_D A (jm_ws ad cs h) ∧ ∀ w ∈ jm_N, va_Nw w U
/-- the contract's end, by what the small machine returned -/
def jm_Q (D : va_G) (A : Nat → Prop) (ad : jm_K → Nat) (cs : Nat → ClassId) (out : Option jm_V × jm_M) : Array Value → State → Outcome → State → Prop := match out.1 with
  | none => va_Qv (fun u : jm_M => u = out.2) (jm_Wd D A ad cs) A
  | some (.inl x) => va_Qi (fun (r : Int32) (u : jm_M) => r = x ∧ u = out.2) (jm_Wd D A ad cs) A
  | some (.inr (.inl x)) => va_Ql (fun (r : Int64) (u : jm_M) => r = x ∧ u = out.2) (jm_Wd D A ad cs) A
  | some (.inr (.inr _)) => fun _ _ _ _ => False
end
section
/-! THE SMALL MACHINE over the real one: a step of it is steps of the machine. -/
set_option maxRecDepth 100000 in
theorem jm_lib_ok : (jm_is.zip jm_mt).all (fun q => q.1.all (fun z => match z.2.1 with
  | .invokestatic idx => ((jm_lk jm_acp q.2.2.2.2.2.2.2 idx).isNone && (jm_lk jm_mth q.2.2.2.2.2.2.2 idx).isNone) || (decide (1 ≤ q.2.2.2.2.2.1) && decide (26 ≤ q.2.2.2.2.2.2.1))
  | _ => true)) = true := by decide +kernel
def jm_R (r : jm_MT) : Room := { frames := r.2.2.2.2.1, cells := 0, slots := 0, locals := r.2.2.2.2.2.1 }
def jm_Fx (D : va_G) (cs : Nat → ClassId) (r : jm_MT) (p : Program) (s : State) (m : MethodId) (args : Array Value) (meth : Method) (c : Code) : Prop :=
  p.tables.exec = Jvm.exec ∧ c.code = r.2.1 ∧ c.maxLocals = r.2.2.1 ∧ s.vm.findClass r.1.cls = some m.cls ∧ (∀ w ∈ jm_T, w.before args s = true) ∧ va_K D jm_cl0 (jm_ty cs) s ∧ (∀ w ∈ jm_N, va_Nw w s) ∧ meth.sig.returnType = r.2.2.2.1 ∧ meth.locks = false ∧ jm_on[r.2.2.2.2.2.2]? = some r.1.cls
def jm_Fr (D : va_G) (A : Nat → Prop) (ad : jm_K → Nat) (cs : Nat → ClassId) (H0 : Heap) (nL : Nat) (f : jm_F) (ls : Array Slot) (H : Heap) (locs : List Loc) : Prop :=
  lv_has ls nL (jm_cvl ad f.2.1) ∧ jm_okl f.2.1 ∧ jm_oks f.2.2.1 ∧ va_P D jm_cl0 (jm_ws ad cs f.2.2.2) H ∧ va_D A (jm_ws ad cs f.2.2.2) ∧ va_S A H0 H locs
theorem jm_ld_spec {w i n : Nat} {f f' : jm_F} {c : Option Prop} (h : jm_ld w i n f = some (c, f')) : ∃ v, f.2.1.lookup i = some v ∧ c = none ∧ f' = (f.1 + n, f.2.1, v :: f.2.2.1, f.2.2.2) ∧ ((w = 0 ∧ ∃ x, v = .inl x) ∨ (w = 1 ∧ ∃ x, v = .inr (.inl x)) ∨ (w = 2 ∧ ∃ x, v = .inr (.inr x))) := by
  unfold jm_ld at h
  split at h
  · rename_i x hx; cases h; exact ⟨_, hx, rfl, rfl, Or.inl ⟨rfl, _, rfl⟩⟩
  · rename_i x hx; cases h; exact ⟨_, hx, rfl, rfl, Or.inr (Or.inl ⟨rfl, _, rfl⟩)⟩
  · rename_i x hx; cases h; exact ⟨_, hx, rfl, rfl, Or.inr (Or.inr ⟨rfl, _, rfl⟩)⟩
  · cases h
theorem jm_sto_spec {w i n : Nat} {f f' : jm_F} {c : Option Prop} (h : jm_sto w i n f = some (c, f')) : ∃ v st, f.2.2.1 = v :: st ∧ c = none ∧ ((w = 0 ∧ (∃ x, v = .inl x) ∧ f' = (f.1 + n, jm_put1 i v f.2.1, st, f.2.2.2)) ∨ (w = 1 ∧ (∃ x, v = .inr (.inl x)) ∧ f' = (f.1 + n, jm_put2 i v f.2.1, st, f.2.2.2)) ∨ (w = 2 ∧ (∃ x, v = .inr (.inr x)) ∧ f' = (f.1 + n, jm_put1 i v f.2.1, st, f.2.2.2))) := by
  unfold jm_sto at h
  split at h
  · rename_i x st hx; cases h; exact ⟨_, _, hx, rfl, Or.inl ⟨rfl, ⟨_, rfl⟩, rfl⟩⟩
  · rename_i x st hx; cases h; exact ⟨_, _, hx, rfl, Or.inr (Or.inl ⟨rfl, ⟨_, rfl⟩, rfl⟩)⟩
  · rename_i x st hx; cases h; exact ⟨_, _, hx, rfl, Or.inr (Or.inr ⟨rfl, ⟨_, rfl⟩, rfl⟩)⟩
  · cases h
theorem jm_ii_spec {g : Int32 → Int32 → Int32} {q : Int32 → Option Prop} {f f' : jm_F} {c : Option Prop} (h : jm_ii g q f = some (c, f')) : ∃ x y st, f.2.2.1 = .inl y :: .inl x :: st ∧ c = q y ∧ f' = (f.1 + 1, f.2.1, .inl (g x y) :: st, f.2.2.2) := by
  unfold jm_ii at h
  split at h
  · rename_i y x st hx; cases h; exact ⟨_, _, _, hx, rfl, rfl⟩
  · cases h
theorem jm_ll_spec {g : Int64 → Int64 → Int64} {q : Int64 → Option Prop} {f f' : jm_F} {c : Option Prop} (h : jm_ll g q f = some (c, f')) : ∃ x y st, f.2.2.1 = .inr (.inl y) :: .inr (.inl x) :: st ∧ c = q y ∧ f' = (f.1 + 1, f.2.1, .inr (.inl (g x y)) :: st, f.2.2.2) := by
  unfold jm_ll at h
  split at h
  · rename_i y x st hx; cases h; exact ⟨_, _, _, hx, rfl, rfl⟩
  · cases h
theorem jm_u1_spec {g : Int32 → Int32} {f f' : jm_F} {c : Option Prop} (h : jm_u1 g f = some (c, f')) : ∃ x st, f.2.2.1 = .inl x :: st ∧ c = none ∧ f' = (f.1 + 1, f.2.1, .inl (g x) :: st, f.2.2.2) := by
  unfold jm_u1 at h
  split at h
  · rename_i x st hx; cases h; exact ⟨_, _, hx, rfl, rfl⟩
  · cases h
theorem jm_oks_tail {v : jm_V} {st : List jm_V} (h : jm_oks (v :: st)) : jm_oks st := fun w hw => h w (List.mem_cons_of_mem _ hw)
theorem jm_oks_head {v : jm_V} {st : List jm_V} (h : jm_oks (v :: st)) : jm_okv v := h v List.mem_cons_self
theorem jm_oks_cons {v : jm_V} {st : List jm_V} (hv : jm_okv v) (h : jm_oks st) : jm_oks (v :: st) := fun w hw => (List.mem_cons.mp hw).elim (fun e => e ▸ hv) (h w)
theorem jm_okl_put1 {i : Nat} {v : jm_V} {L : jm_L} (hv : jm_okv v) (h : jm_okl L) : jm_okl (jm_put1 i v L) := fun q hq => (List.mem_cons.mp hq).elim (fun e => by rw [e]; exact hv) (fun e => h q (List.mem_filter.mp e).1)
theorem jm_okl_put2 {i : Nat} {v : jm_V} {L : jm_L} (hv : jm_okv v) (h : jm_okl L) : jm_okl (jm_put2 i v L) := fun q hq => (List.mem_cons.mp hq).elim (fun e => by rw [e]; exact hv) (fun e => h q (List.mem_filter.mp e).1)
theorem jm_okl_get {i : Nat} {v : jm_V} {L : jm_L} (h : jm_okl L) (hl : L.lookup i = some v) : jm_okv v := h (i, v) (jm_lookup_mem hl)
theorem jm_tgt {pc : Nat} {o : Int} (h : 0 ≤ (pc : Int) + o) : (pc : Int) + o = ((jm_tg pc o : Nat) : Int) := (Int.toNat_of_nonneg h).symm
theorem jm_lk_mem {α : Type} {t : List (List (Nat × α))} {own idx : Nat} {v : α} (h : jm_lk t own idx = some v) : ∃ l, t[own]? = some l ∧ (idx, v) ∈ l := by
  unfold jm_lk at h
  split at h
  · rename_i l hl; exact ⟨l, hl, jm_lookup_mem h⟩
  · cases h
theorem jm_lk_all {α : Type} {t : List (List (Nat × α))} {own idx : Nat} {v : α} {N : String} {P : String → Nat × α → Bool} (ht : (t.zip jm_on).all (fun q => q.1.all (P q.2)) = true) (ho : jm_on[own]? = some N) (h : jm_lk t own idx = some v) : P N (idx, v) = true := by
  obtain ⟨l, hl, hm⟩ := jm_lk_mem h
  have hz : (l, N) ∈ t.zip jm_on := by
    refine List.mem_iff_getElem?.mpr ⟨own, ?_⟩
    rw [List.getElem?_zip_eq_some]
    exact ⟨hl, ho⟩
  exact List.all_eq_true.mp (List.all_eq_true.mp ht _ hz) _ hm
section JMS
variable {p : Program} {l : Launch} {e : Env} {s : State} {m : MethodId} {args : Array Value} {below : List Frame} {meth : Method} {c : Code} {H : Heap} {locs : List Loc} {Q : State → Prop}
variable {D : va_G} {A : Nat → Prop} {ad : jm_K → Nat} {cs : Nat → ClassId} {H0 : Heap} {r : jm_MT} {ls : Array Slot}

theorem jm_ts_spec (pc : Nat) (d : Int) (x : Int32) (offs : List Int) : ∀ (os : List Int) (k : Int) (i : Nat), os = offs.drop i → -2147483648 ≤ k → k + (os.length : Int) ≤ 2147483648 →
    (x.toInt < k ∨ k + (os.length : Int) ≤ x.toInt → jm_ts pc d x k os = jm_tg pc d) ∧ (k ≤ x.toInt → x.toInt < k + (os.length : Int) → ∃ o, offs[i + (x.toInt - k).toNat]? = some o ∧ jm_ts pc d x k os = jm_tg pc o) := by
  intro os
  induction os with
  | nil =>
    intro k i _ _ _
    exact ⟨fun _ => rfl, fun h1 h2 => absurd h2 (by simp; omega)⟩
  | cons o t ih =>
    intro k i hi hk1 hk2
    have hlen : ((o :: t).length : Int) = (t.length : Int) + 1 := by simp
    have hkI : (Int32.ofInt k).toInt = k := by
      rw [Int32.toInt_ofInt]
      refine Int.bmod_eq_of_le ?_ ?_ <;> (simp [Int32.size]; omega)
    have hxk : x = Int32.ofInt k ↔ x.toInt = k := by
      constructor
      · intro h; rw [h, hkI]
      · intro h; apply Int32.toInt_inj.mp; rw [hkI, h]
    have ht : t = offs.drop (i + 1) := by
      rw [← List.drop_drop, ← hi]; rfl
    have h0 : offs[i]? = some o := by
      have := congrArg (fun z => z[0]?) hi
      simpa using this.symm
    obtain ⟨ih1, ih2⟩ := ih (k + 1) (i + 1) ht (by omega) (by rw [hlen] at hk2; omega)
    constructor
    · intro h
      have hne : ¬ x = Int32.ofInt k := fun q => by rw [hxk] at q; rw [hlen] at h; omega
      simp only [jm_ts, if_neg hne]
      exact ih1 (by rw [hlen] at h; omega)
    · intro h1 h2
      by_cases hx : x = Int32.ofInt k
      · refine ⟨o, ?_, by simp only [jm_ts, if_pos hx]⟩
        rw [hxk] at hx
        rw [hx, Int.sub_self]
        exact h0
      · have hne : ¬ x.toInt = k := fun q => hx (hxk.mpr q)
        obtain ⟨o2, g1, g2⟩ := ih2 (by omega) (by rw [hlen] at h2; omega)
        refine ⟨o2, ?_, by simp only [jm_ts, if_neg hx]; exact g2⟩
        rw [← g1]
        congr 1
        omega
theorem jm_ls_spec (pc : Nat) (d : Int) (x : Int32) (ps : List (Int × Int)) (h : ∀ q ∈ ps, -2147483648 ≤ q.1 ∧ q.1 ≤ 2147483647) : jm_ls pc d x ps = jm_tg pc (Op.lookupswitch.offset ps d x.toInt) := by
  induction ps with
  | nil => rfl
  | cons q t ih =>
    have hq := h q List.mem_cons_self
    have hkI : (Int32.ofInt q.1).toInt = q.1 := by
      rw [Int32.toInt_ofInt]
      refine Int.bmod_eq_of_le ?_ ?_ <;> (simp [Int32.size]; omega)
    have hxk : x = Int32.ofInt q.1 ↔ x.toInt = q.1 := by
      constructor
      · intro h; rw [h, hkI]
      · intro h; apply Int32.toInt_inj.mp; rw [hkI, h]
    obtain ⟨a, b⟩ := q
    rw [jm_ls, Op.lookupswitch.offset_cons, ih (fun z hz => h z (List.mem_cons_of_mem _ hz))]
    by_cases hx : x = Int32.ofInt a
    · rw [if_pos hx, if_pos (hxk.mp hx).symm]
    · rw [if_neg hx, if_neg (fun q => hx (hxk.mpr q.symm))]
end JMS
end
section
/-! THE SMALL MACHINE over the real one: memory. -/
def jm_loc : Instr → Option Nat
  | .istore k | .astore k => some k
  | .istore_n k | .astore_n k => some (k : Nat)
  | .lstore k => some (k + 1)
  | .lstore_n k => some ((k : Nat) + 1)
  | .iinc k _ => some k
  | _ => none
set_option maxRecDepth 100000 in
theorem jm_loc_ok : (jm_is.zip jm_mt).all (fun q => q.1.all (fun z => match jm_loc z.2.1 with
  | some k => decide (k < q.2.2.2.1)
  | none => true)) = true := by decide +kernel
theorem jm_getf_spec {own idx : Nat} {f f' : jm_F} {cd : Option Prop} (h : jm_getf own idx f = some (cd, f')) : ∃ c st ci k pl fs v, f.2.2.1 = .inr (.inr c) :: st ∧ jm_lk jm_fl own idx = some (ci, k, pl) ∧ jm_sh c = some (.inl (ci, fs)) ∧ f' = (f.1 + 3, f.2.1, v :: st, f.2.2.2) ∧ ((∃ q, fs[k]? = some (some q) ∧ v = .inr (.inr q)) ∨ (fs[k]? = some none ∧ v = .inl (f.2.2.2 c k))) := by
  unfold jm_getf at h
  split at h
  · rename_i c st hst
    split at h
    · rename_i ci k pl ci2 fs h1 h2
      split at h
      · rename_i hci
        subst hci
        split at h
        · rename_i q hq; cases h; exact ⟨c, st, ci, k, pl, fs, _, hst, h1, h2, rfl, Or.inl ⟨q, hq, rfl⟩⟩
        · rename_i hq; cases h; exact ⟨c, st, ci, k, pl, fs, _, hst, h1, h2, rfl, Or.inr ⟨hq, rfl⟩⟩
        · cases h
      · cases h
    · cases h
  · cases h
theorem jm_putf_spec {own idx : Nat} {f f' : jm_F} {cd : Option Prop} (h : jm_putf own idx f = some (cd, f')) : ∃ v c st ci k pl fs, f.2.2.1 = .inl v :: .inr (.inr c) :: st ∧ jm_lk jm_fl own idx = some (ci, k, pl) ∧ jm_sh c = some (.inl (ci, fs)) ∧ fs[k]? = some none ∧ cd = (if jm_bo ci k = true then some (v = 0 ∨ v = 1) else none) ∧ f' = (f.1 + 3, f.2.1, st, jm_set f.2.2.2 c (upd (f.2.2.2 c) k v)) := by
  unfold jm_putf at h
  split at h
  · rename_i v c st hst
    split at h
    · rename_i ci k pl ci2 fs h1 h2
      split at h
      · rename_i hci
        subst hci
        split at h
        · rename_i hq; cases h; exact ⟨v, c, st, ci, k, pl, fs, hst, h1, h2, hq, rfl, rfl⟩
        · cases h
      · cases h
    · cases h
  · cases h
theorem jm_iald_spec {f f' : jm_F} {cd : Option Prop} (h : jm_iald f = some (cd, f')) : ∃ i c st n, f.2.2.1 = .inl i :: .inr (.inr c) :: st ∧ jm_sh c = some (.inr (.inl n)) ∧ cd = some (vp_in i n) ∧ f' = (f.1 + 1, f.2.1, .inl (f.2.2.2 c i.toNatClampNeg) :: st, f.2.2.2) := by
  unfold jm_iald at h
  split at h
  · rename_i i c st hst
    split at h
    · rename_i n hn; cases h; exact ⟨i, c, st, n, hst, hn, rfl, rfl⟩
    · cases h
  · cases h
theorem jm_iast_spec {f f' : jm_F} {cd : Option Prop} (h : jm_iast f = some (cd, f')) : ∃ v i c st n, f.2.2.1 = .inl v :: .inl i :: .inr (.inr c) :: st ∧ jm_sh c = some (.inr (.inl n)) ∧ cd = some (vp_in i n) ∧ f' = (f.1 + 1, f.2.1, st, jm_set f.2.2.2 c (upd (f.2.2.2 c) i.toNatClampNeg v)) := by
  unfold jm_iast at h
  split at h
  · rename_i v i c st hst
    split at h
    · rename_i n hn; cases h; exact ⟨v, i, c, st, n, hst, hn, rfl, rfl⟩
    · cases h
  · cases h
theorem jm_aald_spec {f f' : jm_F} {cd : Option Prop} (h : jm_aald f = some (cd, f')) : ∃ i c st t n g, f.2.2.1 = .inl i :: .inr (.inr c) :: st ∧ jm_sh c = some (.inr (.inr (t, n, g))) ∧ cd = some (vp_in i n) ∧ f' = (f.1 + 1, f.2.1, .inr (.inr (g i.toNatClampNeg)) :: st, f.2.2.2) := by
  unfold jm_aald at h
  split at h
  · rename_i i c st hst
    split at h
    · rename_i t n g hn; cases h; exact ⟨i, c, st, t, n, g, hst, hn, rfl, rfl⟩
    · cases h
  · cases h
theorem jm_alen_spec {f f' : jm_F} {cd : Option Prop} (h : jm_alen f = some (cd, f')) : ∃ c st n, f.2.2.1 = .inr (.inr c) :: st ∧ jm_sh c = some (.inr (.inl n)) ∧ f' = (f.1 + 1, f.2.1, .inl (Int32.ofNat n) :: st, f.2.2.2) := by
  unfold jm_alen at h
  split at h
  · rename_i c st hst
    split at h
    · rename_i n hn; cases h; exact ⟨c, st, n, hst, hn, rfl⟩
    · cases h
  · cases h
/-- what the checks of the shapes say -/
theorem jm_obj {c : jm_K} (hc : c ∈ jm_ks) {ci : Nat} {fs : List (Option jm_K)} (h : jm_sh c = some (.inl (ci, fs))) : ∃ q, jm_cl0[ci]? = some q ∧ q.2.2 = fs.length ∧ ∀ k, fs[k]? = some none → (q.2.1 k).2.2.2 = false ∧ parseFieldDescriptor (q.2.1 k).2.2.1 = some (if jm_bo ci k = true then FieldType.boolean else FieldType.int) := by
  have h1 := List.all_eq_true.mp jm_sho_ok c hc
  unfold jm_sho at h1
  rw [h] at h1
  dsimp only at h1
  split at h1
  · rename_i q hq
    simp only [Bool.and_eq_true, decide_eq_true_eq] at h1
    refine ⟨q, hq, h1.1, fun k hk => ?_⟩
    have h2 := List.all_eq_true.mp h1.2 k (List.mem_range.mpr (List.getElem?_eq_some_iff.mp hk).1)
    rw [hk] at h2
    simpa only [Bool.and_eq_true, decide_eq_true_eq] using h2
  · cases h1
theorem jm_row {c : jm_K} (hc : c ∈ jm_ks) {n : Nat} (h : jm_sh c = some (.inr (.inl n))) : n < 2147483648 := by
  have h1 := List.all_eq_true.mp jm_sho_ok c hc
  unfold jm_sho at h1
  rw [h] at h1
  exact of_decide_eq_true h1
theorem jm_rowr {c : jm_K} (hc : c ∈ jm_ks) {t n : Nat} {g : Nat → jm_K} (h : jm_sh c = some (.inr (.inr (t, n, g)))) : (t = 1 ∨ t = 2) ∧ ∀ i, i < n → g i ∈ jm_ks := by
  have h1 := List.all_eq_true.mp jm_sho_ok c hc
  unfold jm_sho at h1
  rw [h] at h1
  simp only [Bool.and_eq_true, Bool.or_eq_true, beq_iff_eq, decide_eq_true_eq] at h1
  refine ⟨h1.1, fun i hi => ?_⟩
  have h2 := List.all_eq_true.mp jm_clo_ok c hc
  unfold jm_clo at h2
  rw [h] at h2
  exact of_decide_eq_true (List.all_eq_true.mp h2 i (List.mem_range.mpr hi))
theorem jm_objr {c : jm_K} (hc : c ∈ jm_ks) {ci k : Nat} {fs : List (Option jm_K)} {q : jm_K} (h : jm_sh c = some (.inl (ci, fs))) (hk : fs[k]? = some (some q)) : q ∈ jm_ks := by
  have h2 := List.all_eq_true.mp jm_clo_ok c hc
  unfold jm_clo at h2
  rw [h] at h2
  exact of_decide_eq_true (List.all_eq_true.mp h2 (some q) (List.mem_of_getElem? hk))
section JMS
variable {p : Program} {l : Launch} {e : Env} {R : Room} {s : State} {m : MethodId} {args : Array Value} {below : List Frame} {meth : Method} {c : Code} {H : Heap} {locs : List Loc} {cells slots : Nat} {Q : State → Prop}
variable {D : va_G} {A : Nat → Prop} {ad : jm_K → Nat} {cs : Nat → ClassId} {H0 : Heap} {r : jm_MT} {ls : Array Slot} {nL own idx : Nat} {N : String} {cc : ByteArray} {f f' : jm_F} {cd : Option Prop}
theorem jm_getf_W (hx : p.tables.exec = Jvm.exec) (hb : c.code = cc) (hown : s.vm.findClass N = some m.cls) (hts : ∀ w ∈ jm_T, w.before args s = true) (hK : va_K D jm_cl0 (jm_ty cs) s) (hon : jm_on[own]? = some N) (hd : decode cc f.1 = .ok (.getfield idx, 3)) (hf : jm_Fr D A ad cs H0 nL f ls H locs) (hs : jm_getf own idx f = some (cd, f'))
    (kk : ∀ (ls' : Array Slot) (H' : Heap) (locs' : List Loc), jm_Fr D A ad cs H0 nL f' ls' H' locs' → W p l e R s m args below meth c H' locs' cells slots Q (F0 m f'.1 ls' (f'.2.2.1.map (jm_cv ad)))) :
    W p l e R s m args below meth c H locs cells slots Q (F0 m f.1 ls (f.2.2.1.map (jm_cv ad))) := by
  obtain ⟨k0, st, ci, k, pl, fs, v, h1, h2, h3, rfl, h4⟩ := jm_getf_spec hs
  obtain ⟨hl, hol, hos, hP, hD, hS⟩ := hf
  rw [h1] at hos ⊢
  have hk0 : k0 ∈ jm_ks := jm_oks_head hos
  obtain ⟨q0, hq0, hq1⟩ := jm_ws_get (ad := ad) (cs := cs) (h := f.2.2.2) hk0
  obtain ⟨q, hq, hlen, hty⟩ := jm_obj hk0 h3
  rw [h3] at hq1
  have hw := jm_lk_all (P := jm_flok) jm_fl_ok hon h2
  unfold jm_flok at hw
  rw [Bool.and_eq_true] at hw
  have hkl : k < q.2.2 := by
    have h9 := of_decide_eq_true hw.2
    dsimp only at h9
    rw [hq] at h9
    exact h9
  have hw1 := jm_at_T hw.1
  unfold jm_fT at hw1
  dsimp only at hw1
  rw [hq] at hw1
  dsimp only at hw1
  have hval : (jm_fs ad (f.2.2.2 k0) fs)[k]? = some (jm_cv ad v) := by
    rw [jm_fs_get ad _ fs (hlen ▸ hkl)]
    unfold jm_slot
    rcases h4 with ⟨z, hz, rfl⟩ | ⟨hz, rfl⟩ <;> rw [hz] <;> rfl
  refine va_get (cl := jm_cl0) (tys := jm_ty cs) (ws := jm_ws ad cs f.2.2.2) (C := q.1) (T := q.2.1) (N := q.2.2) hx hb hts (jm_uws hq) hown hK hP q0 hq1 hq k hkl (hts _ hw1) (fun x h => h) hval hd ?_
  refine kk ls H locs ⟨hl, hol, jm_oks_cons ?_ (jm_oks_tail hos), hP, hD, hS⟩
  rcases h4 with ⟨z, hz, rfl⟩ | ⟨hz, rfl⟩
  · exact jm_objr hk0 h3 hz
  · trivial
theorem jm_nmo : ∀ (ci : Nat) (q : vw_C), jm_cl0[ci]? = some q → ∀ a, a < q.2.2 → ∀ b, b < q.2.2 → a ≠ b → (q.2.1 a).2.1 ≠ (q.2.1 b).2.1 := by
  intro ci q h
  have h2 : ∀ q ∈ jm_cl0, ∀ a, a < q.2.2 → ∀ b, b < q.2.2 → a ≠ b → (q.2.1 a).2.1 ≠ (q.2.1 b).2.1 := by
    intro q hq
    simp only [jm_cl0, List.mem_cons, List.not_mem_nil, or_false] at hq
    rcases hq with rfl | rfl | rfl | rfl | rfl | rfl | rfl | rfl | rfl | rfl | rfl | rfl
    · exact nmX0
    · exact nmX1
    · exact nmX2
    · exact nmX3
    · exact nmX4
    · exact nmX5
    · exact nmX6
    · exact nmX7
    · exact nmX9
    · exact nmX10
    · exact nmX11
    · exact nmX12
  exact h2 q (List.mem_of_getElem? h)
theorem jm_tyo : ∀ (ci : Nat) (q : vw_C), jm_cl0[ci]? = some q → ∃ ty0 : Nat → FieldType, ∀ k, k < q.2.2 → parseFieldDescriptor (q.2.1 k).2.2.1 = some (ty0 k) := by
  intro ci q h
  have h2 : ∀ q ∈ jm_cl0, ∃ ty0 : Nat → FieldType, ∀ k, k < q.2.2 → parseFieldDescriptor (q.2.1 k).2.2.1 = some (ty0 k) := by
    intro q hq
    simp only [jm_cl0, List.mem_cons, List.not_mem_nil, or_false] at hq
    rcases hq with rfl | rfl | rfl | rfl | rfl | rfl | rfl | rfl | rfl | rfl | rfl | rfl
    · exact ⟨_, tyX0_ok⟩
    · exact ⟨_, tyX1_ok⟩
    · exact ⟨_, tyX2_ok⟩
    · exact ⟨_, tyX3_ok⟩
    · exact ⟨_, tyX4_ok⟩
    · exact ⟨_, tyX5_ok⟩
    · exact ⟨_, tyX6_ok⟩
    · exact ⟨_, tyX7_ok⟩
    · exact ⟨_, tyX9_ok⟩
    · exact ⟨_, tyX10_ok⟩
    · exact ⟨_, tyX11_ok⟩
    · exact ⟨_, tyX12_ok⟩
  exact h2 q (List.mem_of_getElem? h)
theorem jm_putf_W (hx : p.tables.exec = Jvm.exec) (hb : c.code = cc) (hown : s.vm.findClass N = some m.cls) (hts : ∀ w ∈ jm_T, w.before args s = true) (hK : va_K D jm_cl0 (jm_ty cs) s) (hon : jm_on[own]? = some N) (hd : decode cc f.1 = .ok (.putfield idx, 3)) (hf : jm_Fr D A ad cs H0 nL f ls H locs) (hs : jm_putf own idx f = some (cd, f')) (hc : jm_hold cd)
    (kk : ∀ (ls' : Array Slot) (H' : Heap) (locs' : List Loc), jm_Fr D A ad cs H0 nL f' ls' H' locs' → W p l e R s m args below meth c H' locs' cells slots Q (F0 m f'.1 ls' (f'.2.2.1.map (jm_cv ad)))) :
    W p l e R s m args below meth c H locs cells slots Q (F0 m f.1 ls (f.2.2.1.map (jm_cv ad))) := by
  obtain ⟨v, k0, st, ci, k, pl, fs, h1, h2, h3, h4, rfl, rfl⟩ := jm_putf_spec hs
  obtain ⟨hl, hol, hos, hP, hD, hS⟩ := hf
  rw [h1] at hos ⊢
  have hk0 : k0 ∈ jm_ks := jm_oks_head (jm_oks_tail hos)
  obtain ⟨q0, hq0, hq1⟩ := jm_ws_get (ad := ad) (cs := cs) (h := f.2.2.2) hk0
  obtain ⟨q, hq, hlen, hty⟩ := jm_obj hk0 h3
  have hset := jm_ws_set (ad := ad) (cs := cs) (h := f.2.2.2) hq0 (upd (f.2.2.2 k0) k v)
  rw [h3] at hq1 hset
  have hw := jm_lk_all (P := jm_flok) jm_fl_ok hon h2
  unfold jm_flok at hw
  rw [Bool.and_eq_true] at hw
  have hkl : k < q.2.2 := by
    have h9 := of_decide_eq_true hw.2
    dsimp only at h9
    rw [hq] at h9
    exact h9
  have hw1 := jm_at_T hw.1
  unfold jm_fT at hw1
  dsimp only at hw1
  rw [hq] at hw1
  dsimp only at hw1
  obtain ⟨ty0, hty0⟩ := jm_tyo ci q hq
  obtain ⟨hfin, hpd⟩ := hty k h4
  have hset2 : (jm_ws ad cs f.2.2.2).set q0 (ad k0, .inr (ci, (jm_fs ad (f.2.2.2 k0) fs).set k (.int v))) = jm_ws ad cs (jm_set f.2.2.2 k0 (upd (f.2.2.2 k0) k v)) := by
    rw [jm_fs_set ad _ fs v h4]; exact hset
  have hnar : narrow (if jm_bo ci k = true then FieldType.boolean else FieldType.int) (.int v) = .int v ∧ fits (if jm_bo ci k = true then FieldType.boolean else FieldType.int) (.int v) = true := by
    by_cases hbo : jm_bo ci k = true
    · rw [if_pos hbo] at hc ⊢
      rcases hc with rfl | rfl <;> exact ⟨by decide +kernel, by decide +kernel⟩
    · rw [if_neg hbo]
      exact ⟨rfl, rfl⟩
  refine va_put (cl := jm_cl0) (tys := jm_ty cs) (ws := jm_ws ad cs f.2.2.2) (C := q.1) (T := q.2.1) (N := q.2.2) hx hb hts (jm_uws hq) ty0 hty0 (jm_nmo ci q hq) hown hK hP hD hS q0 hq1 hq k hkl (hts _ hw1) (fun x h => h) hfin hpd hnar.1 hnar.2 (by rw [jm_fs_len]; exact hlen ▸ hkl) hd (fun H1 locs1 hP1 hD1 hS1 => ?_)
  have hP1 : va_P D jm_cl0 ((jm_ws ad cs f.2.2.2).set q0 (ad k0, .inr (ci, (jm_fs ad (f.2.2.2 k0) fs).set k (.int v)))) H1 := hP1
  have hD1 : va_D A ((jm_ws ad cs f.2.2.2).set q0 (ad k0, .inr (ci, (jm_fs ad (f.2.2.2 k0) fs).set k (.int v)))) := hD1
  rw [hset2] at hP1 hD1
  exact kk ls H1 locs1 ⟨hl, hol, jm_oks_tail (jm_oks_tail hos), hP1, hD1, hS1⟩
theorem jm_iald_W (hx : p.tables.exec = Jvm.exec) (hb : c.code = cc) (hK : va_K D jm_cl0 (jm_ty cs) s) (hd : decode cc f.1 = .ok (.iaload, 1)) (hf : jm_Fr D A ad cs H0 nL f ls H locs) (hs : jm_iald f = some (cd, f')) (hc : jm_hold cd)
    (kk : ∀ (ls' : Array Slot) (H' : Heap) (locs' : List Loc), jm_Fr D A ad cs H0 nL f' ls' H' locs' → W p l e R s m args below meth c H' locs' cells slots Q (F0 m f'.1 ls' (f'.2.2.1.map (jm_cv ad)))) :
    W p l e R s m args below meth c H locs cells slots Q (F0 m f.1 ls (f.2.2.1.map (jm_cv ad))) := by
  obtain ⟨i, k0, st, n, h1, h3, rfl, rfl⟩ := jm_iald_spec hs
  obtain ⟨hl, hol, hos, hP, hD, hS⟩ := hf
  rw [h1] at hos ⊢
  have hk0 : k0 ∈ jm_ks := jm_oks_head (jm_oks_tail hos)
  obtain ⟨q0, hq0, hq1⟩ := jm_ws_get (ad := ad) (cs := cs) (h := f.2.2.2) hk0
  rw [h3] at hq1
  refine va_iald (cl := jm_cl0) (tys := jm_ty cs) (ws := jm_ws ad cs f.2.2.2) hx hb hK hP q0 0 hq1 rfl hc hd ?_
  exact kk ls H locs ⟨hl, hol, jm_oks_cons trivial (jm_oks_tail (jm_oks_tail hos)), hP, hD, hS⟩
theorem jm_iast_W (hx : p.tables.exec = Jvm.exec) (hb : c.code = cc) (hK : va_K D jm_cl0 (jm_ty cs) s) (hd : decode cc f.1 = .ok (.iastore, 1)) (hf : jm_Fr D A ad cs H0 nL f ls H locs) (hs : jm_iast f = some (cd, f')) (hc : jm_hold cd)
    (kk : ∀ (ls' : Array Slot) (H' : Heap) (locs' : List Loc), jm_Fr D A ad cs H0 nL f' ls' H' locs' → W p l e R s m args below meth c H' locs' cells slots Q (F0 m f'.1 ls' (f'.2.2.1.map (jm_cv ad)))) :
    W p l e R s m args below meth c H locs cells slots Q (F0 m f.1 ls (f.2.2.1.map (jm_cv ad))) := by
  obtain ⟨v, i, k0, st, n, h1, h3, rfl, rfl⟩ := jm_iast_spec hs
  obtain ⟨hl, hol, hos, hP, hD, hS⟩ := hf
  rw [h1] at hos ⊢
  have hk0 : k0 ∈ jm_ks := jm_oks_head (jm_oks_tail (jm_oks_tail hos))
  obtain ⟨q0, hq0, hq1⟩ := jm_ws_get (ad := ad) (cs := cs) (h := f.2.2.2) hk0
  have hset := jm_ws_set (ad := ad) (cs := cs) (h := f.2.2.2) hq0 (upd (f.2.2.2 k0) i.toNatClampNeg v)
  rw [h3] at hq1 hset
  refine va_iast (cl := jm_cl0) (tys := jm_ty cs) (ws := jm_ws ad cs f.2.2.2) hx hb hK hP hD hS q0 0 hq1 rfl hc hd (fun H1 locs1 hP1 hD1 hS1 => ?_)
  have hset2 : (jm_ws ad cs f.2.2.2).set q0 (ad k0, .inl (cs 0, n, .inl (upd (f.2.2.2 k0) i.toNatClampNeg v))) = jm_ws ad cs (jm_set f.2.2.2 k0 (upd (f.2.2.2 k0) i.toNatClampNeg v)) := hset
  rw [hset2] at hP1 hD1
  exact kk ls H1 locs1 ⟨hl, hol, jm_oks_tail (jm_oks_tail (jm_oks_tail hos)), hP1, hD1, hS1⟩
theorem jm_aald_W (hx : p.tables.exec = Jvm.exec) (hb : c.code = cc) (hK : va_K D jm_cl0 (jm_ty cs) s) (hd : decode cc f.1 = .ok (.aaload, 1)) (hf : jm_Fr D A ad cs H0 nL f ls H locs) (hs : jm_aald f = some (cd, f')) (hc : jm_hold cd)
    (kk : ∀ (ls' : Array Slot) (H' : Heap) (locs' : List Loc), jm_Fr D A ad cs H0 nL f' ls' H' locs' → W p l e R s m args below meth c H' locs' cells slots Q (F0 m f'.1 ls' (f'.2.2.1.map (jm_cv ad)))) :
    W p l e R s m args below meth c H locs cells slots Q (F0 m f.1 ls (f.2.2.1.map (jm_cv ad))) := by
  obtain ⟨i, k0, st, t, n, g, h1, h3, rfl, rfl⟩ := jm_aald_spec hs
  obtain ⟨hl, hol, hos, hP, hD, hS⟩ := hf
  rw [h1] at hos ⊢
  have hk0 : k0 ∈ jm_ks := jm_oks_head (jm_oks_tail hos)
  obtain ⟨q0, hq0, hq1⟩ := jm_ws_get (ad := ad) (cs := cs) (h := f.2.2.2) hk0
  obtain ⟨ht, hg⟩ := jm_rowr hk0 h3
  rw [h3] at hq1
  have hg2 : g i.toNatClampNeg ∈ jm_ks := hg _ (Nat.not_le.mp fun q => hc (Or.inr q))
  have k2 := kk ls H locs ⟨hl, hol, jm_oks_cons (v := .inr (.inr (g i.toNatClampNeg))) hg2 (jm_oks_tail (jm_oks_tail hos)), hP, hD, hS⟩
  rcases ht with rfl | rfl
  · exact va_aldq (cl := jm_cl0) (tys := jm_ty cs) (ws := jm_ws ad cs f.2.2.2) hx hb hK hP q0 1 hq1 rfl hc hd k2
  · exact va_aldq (cl := jm_cl0) (tys := jm_ty cs) (ws := jm_ws ad cs f.2.2.2) hx hb hK hP q0 2 hq1 rfl hc hd k2
theorem jm_alen_W (hx : p.tables.exec = Jvm.exec) (hb : c.code = cc) (hK : va_K D jm_cl0 (jm_ty cs) s) (hd : decode cc f.1 = .ok (.arraylength, 1)) (hf : jm_Fr D A ad cs H0 nL f ls H locs) (hs : jm_alen f = some (cd, f'))
    (kk : ∀ (ls' : Array Slot) (H' : Heap) (locs' : List Loc), jm_Fr D A ad cs H0 nL f' ls' H' locs' → W p l e R s m args below meth c H' locs' cells slots Q (F0 m f'.1 ls' (f'.2.2.1.map (jm_cv ad)))) :
    W p l e R s m args below meth c H locs cells slots Q (F0 m f.1 ls (f.2.2.1.map (jm_cv ad))) := by
  obtain ⟨k0, st, n, h1, h3, rfl⟩ := jm_alen_spec hs
  obtain ⟨hl, hol, hos, hP, hD, hS⟩ := hf
  rw [h1] at hos ⊢
  have hk0 : k0 ∈ jm_ks := jm_oks_head hos
  obtain ⟨q0, hq0, hq1⟩ := jm_ws_get (ad := ad) (cs := cs) (h := f.2.2.2) hk0
  rw [h3] at hq1
  refine va_alen (cl := jm_cl0) (tys := jm_ty cs) (ws := jm_ws ad cs f.2.2.2) hx hb hK hP q0 0 hq1 rfl rfl hd ?_
  exact kk ls H locs ⟨hl, hol, jm_oks_cons trivial (jm_oks_tail hos), hP, hD, hS⟩
theorem jm_wsum_cv (ad : jm_K → Nat) (st : List jm_V) : ((st.map (jm_cv ad)).map fun v => v.category).sum = jm_wsum st := by
  unfold jm_wsum
  rw [List.map_map]
  congr 2
  funext v
  exact jm_cv_cat ad v
theorem jm_lib_W (hx : p.tables.exec = Jvm.exec) (hb : c.code = cc) (hml : c.maxLocals = nL) (hown : s.vm.findClass N = some m.cls) (hts : ∀ w ∈ jm_T, w.before args s = true) (hK : va_K D jm_cl0 (jm_ty cs) s) (hon : jm_on[own]? = some N)
    (hlib : (jm_lk jm_acp own idx).isNone = true ∧ (jm_lk jm_mth own idx).isNone = true ∨ 1 ≤ R.frames ∧ 26 ≤ R.locals) (hd : decode cc f.1 = .ok (.invokestatic idx, 3)) (hf : jm_Fr D A ad cs H0 nL f ls H locs) (hs : jm_lib own idx f = some (cd, f')) (hc : jm_hold cd)
    (kk : ∀ (ls' : Array Slot) (H' : Heap) (locs' : List Loc), jm_Fr D A ad cs H0 nL f' ls' H' locs' → W p l e R s m args below meth c H' locs' 0 0 Q (F0 m f'.1 ls' (f'.2.2.1.map (jm_cv ad)))) :
    W p l e R s m args below meth c H locs 0 0 Q (F0 m f.1 ls (f.2.2.1.map (jm_cv ad))) := by
  obtain ⟨hl, hol, hos, hP, hD, hS⟩ := hf
  have hls : c.maxLocals = ls.size := hml.trans hl.1.symm
  have hsys := jm_sys_ok
  simp only [Bool.and_eq_true] at hsys
  unfold jm_lib at hs
  split at hs
  · rename_i pl n dp c1 sp c0 st hacp hst
    rw [hacp] at hlib
    obtain ⟨hfr, hlo⟩ : 1 ≤ R.frames ∧ 26 ≤ R.locals := hlib.resolve_left (fun q => by simp at q)
    rw [hst] at hos ⊢
    split at hs
    · rename_i n0 n1 hn0 hn1
      split at hs
      · rename_i hsum
        cases hs
        obtain ⟨g1, g2, g3, g4, g5⟩ := hc
        have hk1 : c1 ∈ jm_ks := jm_oks_head (jm_oks_tail (jm_oks_tail hos))
        have hk0 : c0 ∈ jm_ks := jm_oks_head (jm_oks_tail (jm_oks_tail (jm_oks_tail (jm_oks_tail hos))))
        obtain ⟨q0, hq0, hq0w⟩ := jm_ws_get (ad := ad) (cs := cs) (h := f.2.2.2) hk0
        obtain ⟨q1, hq1, hq1w⟩ := jm_ws_get (ad := ad) (cs := cs) (h := f.2.2.2) hk1
        have hset := jm_ws_set (ad := ad) (cs := cs) (h := f.2.2.2) hq1 (va_cpy (f.2.2.2 c0) (f.2.2.2 c1) sp.toNatClampNeg dp.toNatClampNeg n.toNatClampNeg)
        rw [hn0] at hq0w
        rw [hn1] at hq1w hset
        have hw := jm_at_T (jm_lk_all (P := jm_acpok) jm_acp_ok hon hacp)
        refine va_copyi (cl := jm_cl0) (tys := jm_ty cs) (ws := jm_ws ad cs f.2.2.2) (ty := .int) hx hb hls hown (hts _ hw) (hts _ (jm_at_T hsys.1.1)) (hts _ (jm_at_T hsys.1.2)) (hts _ (jm_at_T hsys.2)) hK hP hD hS q0 q1 0 0 hq0w hq1w rfl rfl rfl g1 g2 g3 g4 g5 (fun i _ => rfl) hfr ?_ hd (fun H1 locs1 hP1 hD1 hS1 => ?_)
        · rw [jm_wsum_cv]
          have : nativeFrameWords "java/lang/System" "arraycopy" 5 + 11 = 18 := by decide +kernel
          omega
        · have hset2 : (jm_ws ad cs f.2.2.2).set q1 (ad c1, .inl (cs 0, n1, .inl (va_cpy (f.2.2.2 c0) (f.2.2.2 c1) sp.toNatClampNeg dp.toNatClampNeg n.toNatClampNeg))) = jm_ws ad cs (jm_set f.2.2.2 c1 (va_cpy (f.2.2.2 c0) (f.2.2.2 c1) sp.toNatClampNeg dp.toNatClampNeg n.toNatClampNeg)) := hset
          rw [hset2] at hP1 hD1
          exact kk ls H1 locs1 ⟨hl, hol, jm_oks_tail (jm_oks_tail (jm_oks_tail (jm_oks_tail (jm_oks_tail hos)))), hP1, hD1, hS1⟩
      · cases hs
    · cases hs
  · rename_i pl y x st hacp hmth hst
    rw [hmth] at hlib
    obtain ⟨hfr, hlo⟩ : 1 ≤ R.frames ∧ 26 ≤ R.locals := hlib.resolve_left (fun q => by simp at q)
    rw [hst] at hos ⊢
    split at hs
    · rename_i hsum
      cases hs
      have hw := jm_lk_all (P := jm_mthok) jm_mth_ok hon hmth
      unfold jm_mthok at hw
      dsimp only at hw
      split at hw
      · simp only [Bool.and_eq_true] at hw
        refine va_mmax hx hb hls hown (hts _ (jm_at_T hw.1.1.1)) (hts _ (jm_at_T hw.1.1.2)) (hts _ (jm_at_T hw.1.2)) (hts _ (jm_at_T hw.2)) hfr (by rw [jm_wsum_cv]; omega) (Nat.zero_le _) (Nat.zero_le _) hd ?_
        exact kk ls H locs ⟨hl, hol, jm_oks_cons trivial (jm_oks_tail (jm_oks_tail hos)), hP, hD, hS⟩
      · rename_i hh; exact absurd hh (by decide)
      · rename_i hh; exact absurd hh (by decide)
      · cases hw
    · cases hs
  · rename_i pl y x st hacp hmth hst
    rw [hmth] at hlib
    obtain ⟨hfr, hlo⟩ : 1 ≤ R.frames ∧ 26 ≤ R.locals := hlib.resolve_left (fun q => by simp at q)
    rw [hst] at hos ⊢
    split at hs
    · rename_i hsum
      cases hs
      have hw := jm_lk_all (P := jm_mthok) jm_mth_ok hon hmth
      unfold jm_mthok at hw
      dsimp only at hw
      split at hw
      · rename_i hh; exact absurd hh (by decide)
      · simp only [Bool.and_eq_true] at hw
        refine va_mmin hx hb hls hown (hts _ (jm_at_T hw.1.1.1)) (hts _ (jm_at_T hw.1.1.2)) (hts _ (jm_at_T hw.1.2)) (hts _ (jm_at_T hw.2)) hfr (by rw [jm_wsum_cv]; omega) (Nat.zero_le _) (Nat.zero_le _) hd ?_
        exact kk ls H locs ⟨hl, hol, jm_oks_cons trivial (jm_oks_tail (jm_oks_tail hos)), hP, hD, hS⟩
      · rename_i hh; exact absurd hh (by decide)
      · cases hw
    · cases hs
  · rename_i pl x st hacp hmth hst
    rw [hmth] at hlib
    obtain ⟨hfr, hlo⟩ : 1 ≤ R.frames ∧ 26 ≤ R.locals := hlib.resolve_left (fun q => by simp at q)
    rw [hst] at hos ⊢
    split at hs
    · rename_i hsum
      cases hs
      have hw := jm_lk_all (P := jm_mthok) jm_mth_ok hon hmth
      unfold jm_mthok at hw
      dsimp only at hw
      split at hw
      · rename_i hh; exact absurd hh (by decide)
      · rename_i hh; exact absurd hh (by decide)
      · simp only [Bool.and_eq_true] at hw
        refine va_mabs hx hb hls hown (hts _ (jm_at_T hw.1.1.1)) (hts _ (jm_at_T hw.1.1.2)) (hts _ (jm_at_T hw.1.2)) (hts _ (jm_at_T hw.2)) hfr (by rw [jm_wsum_cv]; omega) (Nat.zero_le _) (Nat.zero_le _) hd ?_
        exact kk ls H locs ⟨hl, hol, jm_oks_cons trivial (jm_oks_tail hos), hP, hD, hS⟩
      · cases hw
    · cases hs
  · cases hs
end JMS
end
section
section JMS
variable {p : Program} {l : Launch} {e : Env} {s : State} {m : MethodId} {args : Array Value} {below : List Frame} {meth : Method} {c : Code} {H : Heap} {locs : List Loc} {Q : State → Prop}
variable {D : va_G} {A : Nat → Prop} {ad : jm_K → Nat} {cs : Nat → ClassId} {H0 : Heap} {r : jm_MT} {ls : Array Slot}
set_option maxHeartbeats 4000000 in
set_option maxRecDepth 100000 in
/-- a plain step -/
theorem jm_step_W {i : Instr} {n : Nat} {v : Int32} {f f' : jm_F} {cd : Option Prop} (hF : jm_Fx D cs r p s m args meth c) (hd : decode r.2.1 f.1 = .ok (i, n)) (hn : n = jm_len i ∨ jm_sw i = true) (ho : jm_offok f.1 i = true) (hv : jm_cval (jm_con.getD r.2.2.2.2.2.2 []) v i = true)
    (hlib : ∀ idx, i = .invokestatic idx → (jm_lk jm_acp r.2.2.2.2.2.2 idx).isNone = true ∧ (jm_lk jm_mth r.2.2.2.2.2.2 idx).isNone = true ∨ 1 ≤ r.2.2.2.2.1 ∧ 26 ≤ r.2.2.2.2.2.1)
    (hf : jm_Fr D A ad cs H0 r.2.2.1 f ls H locs) (hs : jm_step r.2.2.2.2.2.2 i n v f = some (cd, f')) (hc : jm_hold cd) (hlt : ∀ k, jm_loc i = some k → k < r.2.2.1)
    (kk : ∀ (ls' : Array Slot) (H' : Heap) (locs' : List Loc), jm_Fr D A ad cs H0 r.2.2.1 f' ls' H' locs' → W p l e (jm_R r) s m args below meth c H' locs' 0 0 Q (F0 m f'.1 ls' (f'.2.2.1.map (jm_cv ad)))) :
    W p l e (jm_R r) s m args below meth c H locs 0 0 Q (F0 m f.1 ls (f.2.2.1.map (jm_cv ad))) := by
  obtain ⟨hx, hb, hml, hown, hts, hK, hN, hr, hlocks, hon⟩ := hF
  obtain ⟨hl, hol, hos, hP, hD, hS⟩ := hf
  obtain ⟨pc, L, st, h⟩ := f
  dsimp only at hd ho hl hol hos hP hD hs ⊢
  cases i
  case iconst k =>
    obtain rfl : n = 1 := by simpa [jm_len, jm_sw] using hn
    cases hs
    refine lv_iconst hx hb hd (of_decide_eq_true hv) ?_
    exact kk ls H locs ⟨hl, hol, jm_oks_cons trivial hos, hP, hD, hS⟩
  case bipush k =>
    obtain rfl : n = 2 := by simpa [jm_len, jm_sw] using hn
    cases hs
    refine lv_bipush hx hb hd (of_decide_eq_true hv) ?_
    exact kk ls H locs ⟨hl, hol, jm_oks_cons trivial hos, hP, hD, hS⟩
  case sipush k =>
    obtain rfl : n = 3 := by simpa [jm_len, jm_sw] using hn
    cases hs
    refine lv_sipush hx hb hd (of_decide_eq_true hv) ?_
    exact kk ls H locs ⟨hl, hol, jm_oks_cons trivial hos, hP, hD, hS⟩
  case ldc k =>
    obtain rfl : n = 2 := by simpa [jm_len, jm_sw] using hn
    cases hs
    have hv2 := of_decide_eq_true hv
    obtain ⟨z, hz, hzv⟩ := Option.map_eq_some_iff.mp hv2
    have hlk : jm_lk jm_con r.2.2.2.2.2.2 k = some z := by
      unfold jm_lk
      rw [List.getD_eq_getElem?_getD] at hz
      cases hq : jm_con[r.2.2.2.2.2.2]? with
      | none => rw [hq] at hz; simp at hz
      | some q => rw [hq] at hz; exact hz
    have hw := jm_at_T (jm_lk_all (P := jm_conok) jm_con_ok hon hlk)
    dsimp only at hw
    rw [hzv] at hw
    refine lv_ldc hx hb hown (hts _ hw) hd ?_
    exact kk ls H locs ⟨hl, hol, jm_oks_cons trivial hos, hP, hD, hS⟩
  case ldc_w k =>
    obtain rfl : n = 3 := by simpa [jm_len, jm_sw] using hn
    cases hs
    have hv2 := of_decide_eq_true hv
    obtain ⟨z, hz, hzv⟩ := Option.map_eq_some_iff.mp hv2
    have hlk : jm_lk jm_con r.2.2.2.2.2.2 k = some z := by
      unfold jm_lk
      rw [List.getD_eq_getElem?_getD] at hz
      cases hq : jm_con[r.2.2.2.2.2.2]? with
      | none => rw [hq] at hz; simp at hz
      | some q => rw [hq] at hz; exact hz
    have hw := jm_at_T (jm_lk_all (P := jm_conok) jm_con_ok hon hlk)
    dsimp only at hw
    rw [hzv] at hw
    refine lv_ldcw hx hb hown (hts _ hw) hd ?_
    exact kk ls H locs ⟨hl, hol, jm_oks_cons trivial hos, hP, hD, hS⟩
  case lconst k =>
    obtain rfl : n = 1 := by simpa [jm_len, jm_sw] using hn
    cases hs
    refine lv_lconst hx hb hd rfl ?_
    exact kk ls H locs ⟨hl, hol, jm_oks_cons trivial hos, hP, hD, hS⟩
  case ldc2_w k =>
    obtain rfl : n = 3 := by simpa [jm_len, jm_sw] using hn
    unfold jm_step at hs
    dsimp only at hs
    split at hs
    · rename_i x q hq
      cases hs
      have hw := jm_at_T (jm_lk_all (P := jm_conLok) jm_conL_ok hon hq)
      refine lv_ldc2 hx hb hown (hts _ hw) hd ?_
      exact kk ls H locs ⟨hl, hol, jm_oks_cons trivial hos, hP, hD, hS⟩
    · cases hs
  case iload k =>
    obtain rfl : n = 2 := by simpa [jm_len, jm_sw] using hn
    obtain ⟨z, hz, rfl, rfl, hzz⟩ := jm_ld_spec (w := 0) (i := k) (n := 2) (f := (pc, L, st, h)) (c := cd) (f' := f') hs
    rcases hzz with ⟨-, x, rfl⟩ | ⟨q, -⟩ | ⟨q, -⟩
    · refine lv_iload hx hb hd (jm_lookup_lv hl hz) ?_
      exact kk ls H locs ⟨hl, hol, jm_oks_cons (jm_okl_get hol hz) hos, hP, hD, hS⟩
    · exact absurd q (by decide)
    · exact absurd q (by decide)
  case iload_n k =>
    obtain rfl : n = 1 := by simpa [jm_len, jm_sw] using hn
    obtain ⟨z, hz, rfl, rfl, hzz⟩ := jm_ld_spec (w := 0) (i := k) (n := 1) (f := (pc, L, st, h)) (c := cd) (f' := f') hs
    rcases hzz with ⟨-, x, rfl⟩ | ⟨q, -⟩ | ⟨q, -⟩
    · refine lv_iload_n hx hb hd rfl (jm_lookup_lv hl hz) ?_
      exact kk ls H locs ⟨hl, hol, jm_oks_cons (jm_okl_get hol hz) hos, hP, hD, hS⟩
    · exact absurd q (by decide)
    · exact absurd q (by decide)
  case lload k =>
    obtain rfl : n = 2 := by simpa [jm_len, jm_sw] using hn
    obtain ⟨z, hz, rfl, rfl, hzz⟩ := jm_ld_spec (w := 1) (i := k) (n := 2) (f := (pc, L, st, h)) (c := cd) (f' := f') hs
    rcases hzz with ⟨q, -⟩ | ⟨-, x, rfl⟩ | ⟨q, -⟩
    · exact absurd q (by decide)
    · refine lv_lload hx hb hd (jm_lookup_lv hl hz) ?_
      exact kk ls H locs ⟨hl, hol, jm_oks_cons (jm_okl_get hol hz) hos, hP, hD, hS⟩
    · exact absurd q (by decide)
  case lload_n k =>
    obtain rfl : n = 1 := by simpa [jm_len, jm_sw] using hn
    obtain ⟨z, hz, rfl, rfl, hzz⟩ := jm_ld_spec (w := 1) (i := k) (n := 1) (f := (pc, L, st, h)) (c := cd) (f' := f') hs
    rcases hzz with ⟨q, -⟩ | ⟨-, x, rfl⟩ | ⟨q, -⟩
    · exact absurd q (by decide)
    · refine lv_lload_n hx hb hd rfl (jm_lookup_lv hl hz) ?_
      exact kk ls H locs ⟨hl, hol, jm_oks_cons (jm_okl_get hol hz) hos, hP, hD, hS⟩
    · exact absurd q (by decide)
  case aload k =>
    obtain rfl : n = 2 := by simpa [jm_len, jm_sw] using hn
    obtain ⟨z, hz, rfl, rfl, hzz⟩ := jm_ld_spec (w := 2) (i := k) (n := 2) (f := (pc, L, st, h)) (c := cd) (f' := f') hs
    rcases hzz with ⟨q, -⟩ | ⟨q, -⟩ | ⟨-, x, rfl⟩
    · exact absurd q (by decide)
    · exact absurd q (by decide)
    · refine lv_aload hx hb hd (jm_lookup_lv hl hz) ?_
      exact kk ls H locs ⟨hl, hol, jm_oks_cons (jm_okl_get hol hz) hos, hP, hD, hS⟩
  case aload_n k =>
    obtain rfl : n = 1 := by simpa [jm_len, jm_sw] using hn
    obtain ⟨z, hz, rfl, rfl, hzz⟩ := jm_ld_spec (w := 2) (i := k) (n := 1) (f := (pc, L, st, h)) (c := cd) (f' := f') hs
    rcases hzz with ⟨q, -⟩ | ⟨q, -⟩ | ⟨-, x, rfl⟩
    · exact absurd q (by decide)
    · exact absurd q (by decide)
    · refine lv_aload_n hx hb hd rfl (jm_lookup_lv hl hz) ?_
      exact kk ls H locs ⟨hl, hol, jm_oks_cons (jm_okl_get hol hz) hos, hP, hD, hS⟩
  case istore k =>
    obtain rfl : n = 2 := by simpa [jm_len, jm_sw] using hn
    obtain ⟨z, st2, hz, rfl, hzz⟩ := jm_sto_spec (w := 0) (i := k) (n := 2) (f := (pc, L, st, h)) (c := cd) (f' := f') hs
    dsimp only at hz
    subst hz
    rcases hzz with ⟨q, ⟨x, rfl⟩, rfl⟩ | ⟨q, ⟨x, rfl⟩, rfl⟩ | ⟨q, ⟨x, rfl⟩, rfl⟩
    · refine lv_istore (lv' := jm_cvl ad (jm_put1 k (.inl x) L)) hx hb hd hl (hlt _ rfl) (jm_cvl_put1 ad k (.inl x) L) (fun ls2 hl2 => ?_)
      exact kk ls2 H locs ⟨hl2, jm_okl_put1 (jm_oks_head hos) hol, jm_oks_tail hos, hP, hD, hS⟩
    · exact absurd q (by decide)
    · exact absurd q (by decide)
  case istore_n k =>
    obtain rfl : n = 1 := by simpa [jm_len, jm_sw] using hn
    obtain ⟨z, st2, hz, rfl, hzz⟩ := jm_sto_spec (w := 0) (i := k) (n := 1) (f := (pc, L, st, h)) (c := cd) (f' := f') hs
    dsimp only at hz
    subst hz
    rcases hzz with ⟨q, ⟨x, rfl⟩, rfl⟩ | ⟨q, ⟨x, rfl⟩, rfl⟩ | ⟨q, ⟨x, rfl⟩, rfl⟩
    · refine lv_istore_n (lv' := jm_cvl ad (jm_put1 k (.inl x) L)) hx hb hd rfl hl (hlt _ rfl) (jm_cvl_put1 ad k (.inl x) L) (fun ls2 hl2 => ?_)
      exact kk ls2 H locs ⟨hl2, jm_okl_put1 (jm_oks_head hos) hol, jm_oks_tail hos, hP, hD, hS⟩
    · exact absurd q (by decide)
    · exact absurd q (by decide)
  case lstore k =>
    obtain rfl : n = 2 := by simpa [jm_len, jm_sw] using hn
    obtain ⟨z, st2, hz, rfl, hzz⟩ := jm_sto_spec (w := 1) (i := k) (n := 2) (f := (pc, L, st, h)) (c := cd) (f' := f') hs
    dsimp only at hz
    subst hz
    rcases hzz with ⟨q, ⟨x, rfl⟩, rfl⟩ | ⟨q, ⟨x, rfl⟩, rfl⟩ | ⟨q, ⟨x, rfl⟩, rfl⟩
    · exact absurd q (by decide)
    · refine lv_lstore (lv' := jm_cvl ad (jm_put2 k (.inr (.inl x)) L)) hx hb hd hl (hlt _ rfl) (jm_cvl_put2 ad k (.inr (.inl x)) L) (fun ls2 hl2 => ?_)
      exact kk ls2 H locs ⟨hl2, jm_okl_put2 (jm_oks_head hos) hol, jm_oks_tail hos, hP, hD, hS⟩
    · exact absurd q (by decide)
  case lstore_n k =>
    obtain rfl : n = 1 := by simpa [jm_len, jm_sw] using hn
    obtain ⟨z, st2, hz, rfl, hzz⟩ := jm_sto_spec (w := 1) (i := k) (n := 1) (f := (pc, L, st, h)) (c := cd) (f' := f') hs
    dsimp only at hz
    subst hz
    rcases hzz with ⟨q, ⟨x, rfl⟩, rfl⟩ | ⟨q, ⟨x, rfl⟩, rfl⟩ | ⟨q, ⟨x, rfl⟩, rfl⟩
    · exact absurd q (by decide)
    · refine lv_lstore_n (lv' := jm_cvl ad (jm_put2 k (.inr (.inl x)) L)) hx hb hd rfl hl (hlt _ rfl) (jm_cvl_put2 ad k (.inr (.inl x)) L) (fun ls2 hl2 => ?_)
      exact kk ls2 H locs ⟨hl2, jm_okl_put2 (jm_oks_head hos) hol, jm_oks_tail hos, hP, hD, hS⟩
    · exact absurd q (by decide)
  case astore k =>
    obtain rfl : n = 2 := by simpa [jm_len, jm_sw] using hn
    obtain ⟨z, st2, hz, rfl, hzz⟩ := jm_sto_spec (w := 2) (i := k) (n := 2) (f := (pc, L, st, h)) (c := cd) (f' := f') hs
    dsimp only at hz
    subst hz
    rcases hzz with ⟨q, ⟨x, rfl⟩, rfl⟩ | ⟨q, ⟨x, rfl⟩, rfl⟩ | ⟨q, ⟨x, rfl⟩, rfl⟩
    · exact absurd q (by decide)
    · exact absurd q (by decide)
    · refine lv_astore (lv' := jm_cvl ad (jm_put1 k (.inr (.inr x)) L)) hx hb hd hl (hlt _ rfl) (jm_cvl_put1 ad k (.inr (.inr x)) L) (fun ls2 hl2 => ?_)
      exact kk ls2 H locs ⟨hl2, jm_okl_put1 (jm_oks_head hos) hol, jm_oks_tail hos, hP, hD, hS⟩
  case astore_n k =>
    obtain rfl : n = 1 := by simpa [jm_len, jm_sw] using hn
    obtain ⟨z, st2, hz, rfl, hzz⟩ := jm_sto_spec (w := 2) (i := k) (n := 1) (f := (pc, L, st, h)) (c := cd) (f' := f') hs
    dsimp only at hz
    subst hz
    rcases hzz with ⟨q, ⟨x, rfl⟩, rfl⟩ | ⟨q, ⟨x, rfl⟩, rfl⟩ | ⟨q, ⟨x, rfl⟩, rfl⟩
    · exact absurd q (by decide)
    · exact absurd q (by decide)
    · refine lv_astore_n (lv' := jm_cvl ad (jm_put1 k (.inr (.inr x)) L)) hx hb hd rfl hl (hlt _ rfl) (jm_cvl_put1 ad k (.inr (.inr x)) L) (fun ls2 hl2 => ?_)
      exact kk ls2 H locs ⟨hl2, jm_okl_put1 (jm_oks_head hos) hol, jm_oks_tail hos, hP, hD, hS⟩
  case iinc k z =>
    obtain rfl : n = 3 := by simpa [jm_len, jm_sw] using hn
    unfold jm_step at hs
    dsimp only at hs
    split at hs
    · rename_i x hq
      cases hs
      obtain ⟨j, hj⟩ := List.mem_iff_getElem?.mp (List.mem_map.mpr ⟨(k, (.inl x : jm_V)), jm_lookup_mem hq, rfl⟩ : (k, jm_cv ad (.inl x)) ∈ jm_cvl ad L)
      refine lv_iinc (v := x + v) (lv' := jm_cvl ad (jm_put1 k (.inl (x + v)) L)) hx hb hd hl hj (by rw [of_decide_eq_true hv]) (hlt _ rfl) (jm_cvl_put1 ad k (.inl (x + v)) L) (fun ls2 hl2 => ?_)
      exact kk ls2 H locs ⟨hl2, jm_okl_put1 trivial hol, hos, hP, hD, hS⟩
    · cases hs
  case iadd =>
    obtain rfl : n = 1 := by simpa [jm_len, jm_sw] using hn
    obtain ⟨x, y, st2, hz, rfl, rfl⟩ := jm_ii_spec hs
    dsimp only at hz
    subst hz
    refine lv_iadd hx hb hd ?_
    exact kk ls H locs ⟨hl, hol, jm_oks_cons trivial (jm_oks_tail (jm_oks_tail hos)), hP, hD, hS⟩
  case isub =>
    obtain rfl : n = 1 := by simpa [jm_len, jm_sw] using hn
    obtain ⟨x, y, st2, hz, rfl, rfl⟩ := jm_ii_spec hs
    dsimp only at hz
    subst hz
    refine lv_isub hx hb hd ?_
    exact kk ls H locs ⟨hl, hol, jm_oks_cons trivial (jm_oks_tail (jm_oks_tail hos)), hP, hD, hS⟩
  case imul =>
    obtain rfl : n = 1 := by simpa [jm_len, jm_sw] using hn
    obtain ⟨x, y, st2, hz, rfl, rfl⟩ := jm_ii_spec hs
    dsimp only at hz
    subst hz
    refine lv_imul hx hb hd ?_
    exact kk ls H locs ⟨hl, hol, jm_oks_cons trivial (jm_oks_tail (jm_oks_tail hos)), hP, hD, hS⟩
  case iand =>
    obtain rfl : n = 1 := by simpa [jm_len, jm_sw] using hn
    obtain ⟨x, y, st2, hz, rfl, rfl⟩ := jm_ii_spec hs
    dsimp only at hz
    subst hz
    refine lv_iand hx hb hd ?_
    exact kk ls H locs ⟨hl, hol, jm_oks_cons trivial (jm_oks_tail (jm_oks_tail hos)), hP, hD, hS⟩
  case ior =>
    obtain rfl : n = 1 := by simpa [jm_len, jm_sw] using hn
    obtain ⟨x, y, st2, hz, rfl, rfl⟩ := jm_ii_spec hs
    dsimp only at hz
    subst hz
    refine lv_ior hx hb hd ?_
    exact kk ls H locs ⟨hl, hol, jm_oks_cons trivial (jm_oks_tail (jm_oks_tail hos)), hP, hD, hS⟩
  case ixor =>
    obtain rfl : n = 1 := by simpa [jm_len, jm_sw] using hn
    obtain ⟨x, y, st2, hz, rfl, rfl⟩ := jm_ii_spec hs
    dsimp only at hz
    subst hz
    refine lv_ixor hx hb hd ?_
    exact kk ls H locs ⟨hl, hol, jm_oks_cons trivial (jm_oks_tail (jm_oks_tail hos)), hP, hD, hS⟩
  case ishl =>
    obtain rfl : n = 1 := by simpa [jm_len, jm_sw] using hn
    obtain ⟨x, y, st2, hz, rfl, rfl⟩ := jm_ii_spec hs
    dsimp only at hz
    subst hz
    refine lv_ishl hx hb hd ?_
    exact kk ls H locs ⟨hl, hol, jm_oks_cons trivial (jm_oks_tail (jm_oks_tail hos)), hP, hD, hS⟩
  case ishr =>
    obtain rfl : n = 1 := by simpa [jm_len, jm_sw] using hn
    obtain ⟨x, y, st2, hz, rfl, rfl⟩ := jm_ii_spec hs
    dsimp only at hz
    subst hz
    refine lv_ishr hx hb hd ?_
    exact kk ls H locs ⟨hl, hol, jm_oks_cons trivial (jm_oks_tail (jm_oks_tail hos)), hP, hD, hS⟩
  case iushr =>
    obtain rfl : n = 1 := by simpa [jm_len, jm_sw] using hn
    obtain ⟨x, y, st2, hz, rfl, rfl⟩ := jm_ii_spec hs
    dsimp only at hz
    subst hz
    refine lv_iushr hx hb hd rfl ?_
    exact kk ls H locs ⟨hl, hol, jm_oks_cons trivial (jm_oks_tail (jm_oks_tail hos)), hP, hD, hS⟩
  case idiv =>
    obtain rfl : n = 1 := by simpa [jm_len, jm_sw] using hn
    obtain ⟨x, y, st2, hz, rfl, rfl⟩ := jm_ii_spec hs
    dsimp only at hz
    subst hz
    refine lv_idiv hx hb hd hc ?_
    exact kk ls H locs ⟨hl, hol, jm_oks_cons trivial (jm_oks_tail (jm_oks_tail hos)), hP, hD, hS⟩
  case irem =>
    obtain rfl : n = 1 := by simpa [jm_len, jm_sw] using hn
    obtain ⟨x, y, st2, hz, rfl, rfl⟩ := jm_ii_spec hs
    dsimp only at hz
    subst hz
    refine lv_irem hx hb hd hc ?_
    exact kk ls H locs ⟨hl, hol, jm_oks_cons trivial (jm_oks_tail (jm_oks_tail hos)), hP, hD, hS⟩
  case ladd =>
    obtain rfl : n = 1 := by simpa [jm_len, jm_sw] using hn
    obtain ⟨x, y, st2, hz, rfl, rfl⟩ := jm_ll_spec hs
    dsimp only at hz
    subst hz
    refine lv_ladd hx hb hd ?_
    exact kk ls H locs ⟨hl, hol, jm_oks_cons trivial (jm_oks_tail (jm_oks_tail hos)), hP, hD, hS⟩
  case lmul =>
    obtain rfl : n = 1 := by simpa [jm_len, jm_sw] using hn
    obtain ⟨x, y, st2, hz, rfl, rfl⟩ := jm_ll_spec hs
    dsimp only at hz
    subst hz
    refine lv_lmul hx hb hd ?_
    exact kk ls H locs ⟨hl, hol, jm_oks_cons trivial (jm_oks_tail (jm_oks_tail hos)), hP, hD, hS⟩
  case ldiv =>
    obtain rfl : n = 1 := by simpa [jm_len, jm_sw] using hn
    obtain ⟨x, y, st2, hz, rfl, rfl⟩ := jm_ll_spec hs
    dsimp only at hz
    subst hz
    refine lv_ldiv hx hb hd hc ?_
    exact kk ls H locs ⟨hl, hol, jm_oks_cons trivial (jm_oks_tail (jm_oks_tail hos)), hP, hD, hS⟩
  case lrem =>
    obtain rfl : n = 1 := by simpa [jm_len, jm_sw] using hn
    obtain ⟨x, y, st2, hz, rfl, rfl⟩ := jm_ll_spec hs
    dsimp only at hz
    subst hz
    refine lv_lrem hx hb hd hc ?_
    exact kk ls H locs ⟨hl, hol, jm_oks_cons trivial (jm_oks_tail (jm_oks_tail hos)), hP, hD, hS⟩
  case ineg =>
    obtain rfl : n = 1 := by simpa [jm_len, jm_sw] using hn
    obtain ⟨x, st2, hz, rfl, rfl⟩ := jm_u1_spec hs
    dsimp only at hz
    subst hz
    refine lv_ineg hx hb hd ?_
    exact kk ls H locs ⟨hl, hol, jm_oks_cons trivial (jm_oks_tail hos), hP, hD, hS⟩
  case i2b =>
    obtain rfl : n = 1 := by simpa [jm_len, jm_sw] using hn
    obtain ⟨x, st2, hz, rfl, rfl⟩ := jm_u1_spec hs
    dsimp only at hz
    subst hz
    refine lv_i2b hx hb hd rfl ?_
    exact kk ls H locs ⟨hl, hol, jm_oks_cons trivial (jm_oks_tail hos), hP, hD, hS⟩
  case i2s =>
    obtain rfl : n = 1 := by simpa [jm_len, jm_sw] using hn
    obtain ⟨x, st2, hz, rfl, rfl⟩ := jm_u1_spec hs
    dsimp only at hz
    subst hz
    refine lv_i2s hx hb hd rfl ?_
    exact kk ls H locs ⟨hl, hol, jm_oks_cons trivial (jm_oks_tail hos), hP, hD, hS⟩
  case i2l =>
    obtain rfl : n = 1 := by simpa [jm_len, jm_sw] using hn
    unfold jm_step at hs
    dsimp only at hs
    split at hs
    · rename_i x st2
      cases hs
      refine lv_i2l hx hb hd rfl ?_
      exact kk ls H locs ⟨hl, hol, jm_oks_cons trivial (jm_oks_tail hos), hP, hD, hS⟩
    · cases hs
  case lcmp =>
    obtain rfl : n = 1 := by simpa [jm_len, jm_sw] using hn
    unfold jm_step at hs
    dsimp only at hs
    split at hs
    · rename_i y x st2
      cases hs
      refine W.lcmp hx hb hd ?_
      exact kk ls H locs ⟨hl, hol, jm_oks_cons trivial (jm_oks_tail (jm_oks_tail hos)), hP, hD, hS⟩
    · cases hs
  case dup =>
    obtain rfl : n = 1 := by simpa [jm_len, jm_sw] using hn
    unfold jm_step at hs
    dsimp only at hs
    split at hs
    · rename_i x st2
      cases hs
      refine lv_dup hx hb hd rfl ?_
      exact kk ls H locs ⟨hl, hol, jm_oks_cons trivial hos, hP, hD, hS⟩
    · rename_i x st2
      cases hs
      refine lv_dup hx hb hd rfl ?_
      exact kk ls H locs ⟨hl, hol, jm_oks_cons (jm_oks_head hos) hos, hP, hD, hS⟩
    · cases hs
  case pop =>
    obtain rfl : n = 1 := by simpa [jm_len, jm_sw] using hn
    unfold jm_step at hs
    dsimp only at hs
    split at hs
    · rename_i x st2
      cases hs
      refine lv_pop hx hb hd rfl ?_
      exact kk ls H locs ⟨hl, hol, jm_oks_tail hos, hP, hD, hS⟩
    · cases hs
  case dup2 =>
    obtain rfl : n = 1 := by simpa [jm_len, jm_sw] using hn
    unfold jm_step at hs
    dsimp only at hs
    split at hs
    · rename_i y x st2
      cases hs
      refine lv_dup2_11 hx hb hd rfl rfl ?_
      exact kk ls H locs ⟨hl, hol, jm_oks_cons trivial (jm_oks_cons (jm_oks_head (jm_oks_tail hos)) hos), hP, hD, hS⟩
    · cases hs
  case goto z =>
    obtain rfl : n = 3 := by simpa [jm_len, jm_sw] using hn
    cases hs
    refine lv_goto hx hb hd (jm_tgt (of_decide_eq_true ho)) ?_
    exact kk ls H locs ⟨hl, hol, hos, hP, hD, hS⟩
  case ifCond cd1 z =>
    obtain rfl : n = 3 := by simpa [jm_len, jm_sw] using hn
    unfold jm_step at hs
    dsimp only at hs
    split at hs
    · rename_i x st2
      cases hs
      have htg := jm_tgt (of_decide_eq_true ho)
      have hfr : jm_Fr D A ad cs H0 r.2.2.1 (jm_br cd1 x 0 (jm_tg pc z) (pc + 3), L, st2, h) ls H locs := ⟨hl, hol, jm_oks_tail hos, hP, hD, hS⟩
      have k2 := kk ls H locs hfr
      dsimp only at k2
      cases cd1
      · exact lv_if_eq hx hb hd htg (fun q => by rw [show jm_br .eq x 0 (jm_tg pc z) (pc + 3) = jm_tg pc z from if_pos q] at k2; exact k2) (fun q => by rw [show jm_br .eq x 0 (jm_tg pc z) (pc + 3) = pc + 3 from if_neg q] at k2; exact k2)
      · exact lv_if_ne hx hb hd htg (fun q => by rw [show jm_br .ne x 0 (jm_tg pc z) (pc + 3) = jm_tg pc z from if_neg q] at k2; exact k2) (fun q => by rw [show jm_br .ne x 0 (jm_tg pc z) (pc + 3) = pc + 3 from if_pos q] at k2; exact k2)
      · exact lv_if_lt hx hb hd htg (fun q => by rw [show jm_br .lt x 0 (jm_tg pc z) (pc + 3) = jm_tg pc z from if_pos q] at k2; exact k2) (fun q => by rw [show jm_br .lt x 0 (jm_tg pc z) (pc + 3) = pc + 3 from if_neg q] at k2; exact k2)
      · exact lv_if_ge hx hb hd htg (fun q => by rw [show jm_br .ge x 0 (jm_tg pc z) (pc + 3) = jm_tg pc z from if_pos q] at k2; exact k2) (fun q => by rw [show jm_br .ge x 0 (jm_tg pc z) (pc + 3) = pc + 3 from if_neg q] at k2; exact k2)
      · exact lv_if_gt hx hb hd htg (fun q => by rw [show jm_br .gt x 0 (jm_tg pc z) (pc + 3) = jm_tg pc z from if_pos q] at k2; exact k2) (fun q => by rw [show jm_br .gt x 0 (jm_tg pc z) (pc + 3) = pc + 3 from if_neg q] at k2; exact k2)
      · exact lv_if_le hx hb hd htg (fun q => by rw [show jm_br .le x 0 (jm_tg pc z) (pc + 3) = jm_tg pc z from if_pos q] at k2; exact k2) (fun q => by rw [show jm_br .le x 0 (jm_tg pc z) (pc + 3) = pc + 3 from if_neg q] at k2; exact k2)
    · cases hs
  case if_icmp cd1 z =>
    obtain rfl : n = 3 := by simpa [jm_len, jm_sw] using hn
    unfold jm_step at hs
    dsimp only at hs
    split at hs
    · rename_i y x st2
      cases hs
      have htg := jm_tgt (of_decide_eq_true ho)
      have hfr : jm_Fr D A ad cs H0 r.2.2.1 (jm_br cd1 x y (jm_tg pc z) (pc + 3), L, st2, h) ls H locs := ⟨hl, hol, jm_oks_tail (jm_oks_tail hos), hP, hD, hS⟩
      have k2 := kk ls H locs hfr
      dsimp only at k2
      cases cd1
      · exact lv_icmp_eq hx hb hd htg (fun q => by rw [show jm_br .eq x y (jm_tg pc z) (pc + 3) = jm_tg pc z from if_pos q] at k2; exact k2) (fun q => by rw [show jm_br .eq x y (jm_tg pc z) (pc + 3) = pc + 3 from if_neg q] at k2; exact k2)
      · exact lv_icmp_ne hx hb hd htg (fun q => by rw [show jm_br .ne x y (jm_tg pc z) (pc + 3) = jm_tg pc z from if_neg q] at k2; exact k2) (fun q => by rw [show jm_br .ne x y (jm_tg pc z) (pc + 3) = pc + 3 from if_pos q] at k2; exact k2)
      · exact lv_icmp_lt hx hb hd htg (fun q => by rw [show jm_br .lt x y (jm_tg pc z) (pc + 3) = jm_tg pc z from if_pos q] at k2; exact k2) (fun q => by rw [show jm_br .lt x y (jm_tg pc z) (pc + 3) = pc + 3 from if_neg q] at k2; exact k2)
      · exact lv_icmp_ge hx hb hd htg (fun q => by rw [show jm_br .ge x y (jm_tg pc z) (pc + 3) = jm_tg pc z from if_pos q] at k2; exact k2) (fun q => by rw [show jm_br .ge x y (jm_tg pc z) (pc + 3) = pc + 3 from if_neg q] at k2; exact k2)
      · exact lv_icmp_gt hx hb hd htg (fun q => by rw [show jm_br .gt x y (jm_tg pc z) (pc + 3) = jm_tg pc z from if_pos q] at k2; exact k2) (fun q => by rw [show jm_br .gt x y (jm_tg pc z) (pc + 3) = pc + 3 from if_neg q] at k2; exact k2)
      · exact lv_icmp_le hx hb hd htg (fun q => by rw [show jm_br .le x y (jm_tg pc z) (pc + 3) = jm_tg pc z from if_pos q] at k2; exact k2) (fun q => by rw [show jm_br .le x y (jm_tg pc z) (pc + 3) = pc + 3 from if_neg q] at k2; exact k2)
    · cases hs
  case tableswitch d lo hi os =>
    unfold jm_step at hs
    dsimp only at hs
    split at hs
    · rename_i x st2
      cases hs
      simp only [jm_offok, Bool.and_eq_true, decide_eq_true_eq, List.all_eq_true] at ho
      obtain ⟨⟨⟨⟨ho1, ho2⟩, ho3⟩, ho4⟩, ho5⟩ := ho
      have hsz : (os.toList.length : Int) = (os.size : Int) := by simp
      obtain ⟨g1, g2⟩ := jm_ts_spec pc d x os.toList os.toList lo 0 (by simp) ho4 (by rw [hsz]; omega)
      have k2 := kk ls H locs ⟨hl, hol, jm_oks_tail hos, hP, hD, hS⟩
      dsimp only at k2
      by_cases hin : lo ≤ x.toInt ∧ x.toInt < lo + (os.toList.length : Int)
      · obtain ⟨o, e1, e2⟩ := g2 hin.1 hin.2
        rw [e2] at k2
        rw [Nat.zero_add] at e1
        exact lv_tableIn hx hb hd (by omega) (by rw [hsz] at hin; omega) (by rw [← Array.getElem?_toList]; exact e1) (jm_tgt (ho2 o (List.mem_of_getElem? e1))) k2
      · rw [g1 (by omega)] at k2
        exact lv_tableOut hx hb hd (by rw [hsz] at hin; omega) (jm_tgt ho1) k2
    · cases hs
  case lookupswitch d ps =>
    unfold jm_step at hs
    dsimp only at hs
    split at hs
    · rename_i x st2
      cases hs
      simp only [jm_offok, Bool.and_eq_true, decide_eq_true_eq] at ho
      obtain ⟨⟨ho1, ho2⟩, ho3⟩ := ho
      have ho2 := List.all_eq_true.mp ho2
      simp only [Bool.and_eq_true, decide_eq_true_eq] at ho2
      have k2 := kk ls H locs ⟨hl, hol, jm_oks_tail hos, hP, hD, hS⟩
      dsimp only at k2
      rw [jm_ls_spec pc d x ps.toList (fun q hq => ⟨(ho2 q hq).1.2, (ho2 q hq).2⟩)] at k2
      refine lv_lookup hx hb hd ho3 rfl (jm_tgt ?_) k2
      have key : ∀ qs : List (Int × Int), (∀ q ∈ qs, 0 ≤ (pc : Int) + q.2) → 0 ≤ (pc : Int) + Op.lookupswitch.offset qs d x.toInt := by
        intro qs
        induction qs with
        | nil => intro _; exact ho1
        | cons a t ih =>
          intro hq
          obtain ⟨a1, a2⟩ := a
          rw [Op.lookupswitch.offset_cons]
          split
          · exact hq (a1, a2) List.mem_cons_self
          · exact ih (fun q h => hq q (List.mem_cons_of_mem _ h))
      exact key ps.toList (fun q hq => (ho2 q hq).1.1)
    · cases hs
  case getfield idx =>
    obtain rfl : n = 3 := by simpa [jm_len, jm_sw] using hn
    have hs : jm_getf r.2.2.2.2.2.2 idx (pc, L, st, h) = some (cd, f') := hs
    exact jm_getf_W (f := (pc, L, st, h)) (f' := f') hx hb hown hts hK hon hd ⟨hl, hol, hos, hP, hD, hS⟩ hs kk
  case putfield idx =>
    obtain rfl : n = 3 := by simpa [jm_len, jm_sw] using hn
    have hs : jm_putf r.2.2.2.2.2.2 idx (pc, L, st, h) = some (cd, f') := hs
    exact jm_putf_W (f := (pc, L, st, h)) (f' := f') hx hb hown hts hK hon hd ⟨hl, hol, hos, hP, hD, hS⟩ hs hc kk
  case iaload =>
    obtain rfl : n = 1 := by simpa [jm_len, jm_sw] using hn
    have hs : jm_iald (pc, L, st, h) = some (cd, f') := hs
    exact jm_iald_W (f := (pc, L, st, h)) (f' := f') hx hb hK hd ⟨hl, hol, hos, hP, hD, hS⟩ hs hc kk
  case iastore =>
    obtain rfl : n = 1 := by simpa [jm_len, jm_sw] using hn
    have hs : jm_iast (pc, L, st, h) = some (cd, f') := hs
    exact jm_iast_W (f := (pc, L, st, h)) (f' := f') hx hb hK hd ⟨hl, hol, hos, hP, hD, hS⟩ hs hc kk
  case aaload =>
    obtain rfl : n = 1 := by simpa [jm_len, jm_sw] using hn
    have hs : jm_aald (pc, L, st, h) = some (cd, f') := hs
    exact jm_aald_W (f := (pc, L, st, h)) (f' := f') hx hb hK hd ⟨hl, hol, hos, hP, hD, hS⟩ hs hc kk
  case arraylength =>
    obtain rfl : n = 1 := by simpa [jm_len, jm_sw] using hn
    have hs : jm_alen (pc, L, st, h) = some (cd, f') := hs
    exact jm_alen_W (f := (pc, L, st, h)) (f' := f') hx hb hK hd ⟨hl, hol, hos, hP, hD, hS⟩ hs kk
  case invokestatic idx =>
    obtain rfl : n = 3 := by simpa [jm_len, jm_sw] using hn
    have hs : jm_lib r.2.2.2.2.2.2 idx (pc, L, st, h) = some (cd, f') := hs
    exact jm_lib_W (f := (pc, L, st, h)) (f' := f') hx hb hml hown hts hK hon (hlib idx rfl) hd ⟨hl, hol, hos, hP, hD, hS⟩ hs hc kk
  all_goals cases (show (none : Option (Option Prop × jm_F)) = some (cd, f') from hs)
end JMS
end
section
/-! THE SMALL MACHINE over the real one: calls, returns, whole methods. -/
def jm_wsM (r : jm_MT) : List Cond := Cond.code r.1 r.2.1 r.2.2.1 r.2.2.2.1 :: jm_T
theorem jm_mt_code {mi : Nat} {r : jm_MT} (h : jm_mt[mi]? = some r) : Cond.code r.1 r.2.1 r.2.2.1 r.2.2.2.1 ∈ jm_T ∧ plainName r.1.cls = true := by
  obtain ⟨i, hi⟩ := jm_mt_all r (List.mem_of_getElem? h)
  unfold jm_mtok at hi
  rw [Bool.and_eq_true] at hi
  exact ⟨jm_at_T hi.1, hi.2⟩
theorem jm_good {mi : Nat} {r : jm_MT} (h : jm_mt[mi]? = some r) : GoodIn jm_T (jm_wsM r) := by
  intro w hw
  have h1 : w ∈ jm_T := (List.mem_cons.mp hw).elim (fun e => by rw [e]; exact (jm_mt_code h).1) id
  exact ⟨h1, good_of_word (List.mem_filter.mp h1).2⟩
theorem jm_mt_own {mi : Nat} {r : jm_MT} (h : jm_mt[mi]? = some r) : jm_on[r.2.2.2.2.2.2]? = some r.1.cls := of_decide_eq_true (List.all_eq_true.mp jm_own_ok r (List.mem_of_getElem? h))
theorem jm_par_spec {y : MethodName} {n : Nat} (h : jm_par y n = true) : y.cls ≠ "java/lang/invoke/MethodHandle" ∧ y.cls ≠ "java/lang/invoke/VarHandle" ∧ (parseMethodDescriptor y.desc).map (fun d => d.parameters.length) = some n := by
  unfold jm_par at h
  simp only [Bool.and_eq_true, decide_eq_true_eq] at h
  exact ⟨h.1.1, h.1.2, h.2⟩
theorem jm_len_par {y : MethodName} {n : Nat} (h : jm_par y n = true) : ∀ sig, parseMethodDescriptor y.desc = some sig → n = sig.parameters.length := by
  intro sig hs
  have h2 := (jm_par_spec h).2.2
  rw [hs] at h2
  exact (Option.some.inj h2).symm
theorem jm_N_warm {s U : State} (hW : s.WarmedH U.vm) (h : ∀ w ∈ jm_N, va_Nw w s) : ∀ w ∈ jm_N, va_Nw w U := by
  intro w hw
  have h1 := h w hw
  have h2 := (List.mem_filter.mp hw).2
  unfold jm_isN at h2
  split at h2
  · exact va_Nw.warmM hW h1
  · cases h2
theorem jm_N_same {u U : State} (hv : u.vm = U.vm) (h : ∀ w ∈ jm_N, va_Nw w u) : ∀ w ∈ jm_N, va_Nw w U := by
  intro w hw
  have h1 := h w hw
  have h2 := (List.mem_filter.mp hw).2
  unfold jm_isN at h2
  split at h2
  · exact va_Nw.same rfl hv h1
  · cases h2
theorem jm_blind {av : List Value} {D : va_G} {A : Nat → Prop} {ad : jm_K → Nat} {cs : Nat → ClassId} {h : jm_M} : FrameBlind (va_Pc av (jm_Wd D A ad cs h)) := fun a U g mk q =>
  ⟨q.1, q.2.1, va_K.moved (u := U) (U := U.calling g mk a) (Vm.Alike.refl U.vm) q.2.2.1, q.2.2.2.1, jm_N_same (u := U) (U := U.calling g mk a) rfl q.2.2.2.2⟩
theorem jm_sl_len (ad : jm_K → Nat) (as : List jm_V) : (lg_sl (as.map (jm_cv ad))).length = jm_wsum as := by
  induction as with
  | nil => rfl
  | cons v t ih =>
    have e : lg_sl ((v :: t).map (jm_cv ad)) = (if (jm_cv ad v).category = 2 then [Slot.val (jm_cv ad v), Slot.second] else [Slot.val (jm_cv ad v)]) ++ lg_sl (t.map (jm_cv ad)) := rfl
    rw [e, List.length_append, ih, jm_cv_cat]
    have e2 : jm_wsum (v :: t) = jm_cat v + jm_wsum t := by simp [jm_wsum]
    rw [e2]
    rcases v with x | x | x <;> rfl
theorem jm_args_cv (ad : jm_K → Nat) (as : List jm_V) : ∀ i, lv_args i (as.map (jm_cv ad)) = jm_cvl ad (jm_args i as) := by
  induction as with
  | nil => intro i; rfl
  | cons v t ih =>
    intro i
    simp only [List.map_cons, lv_args, jm_args, jm_cvl, jm_cv_cat, ih]
theorem jm_oks_nil : jm_oks [] := fun v hv => by cases hv
theorem jm_okl_args {as : List jm_V} (h : jm_oks as) : ∀ i, jm_okl (jm_args i as) := by
  induction as with
  | nil => intro i q hq; cases hq
  | cons v t ih =>
    intro i q hq
    rcases List.mem_cons.mp hq with rfl | hq
    · exact h v List.mem_cons_self
    · exact ih (jm_oks_tail h) _ q hq
section JMD
variable {p : Program} {l : Launch} {e : Env} {R : Room} {s : State} {m : MethodId} {args : Array Value} {below : List Frame} {meth : Method} {c : Code} {H : Heap} {locs : List Loc} {Q : State → Prop}
variable {D : va_G} {A : Nat → Prop} {ad : jm_K → Nat} {cs : Nat → ClassId} {H0 : Heap} {r r' : jm_MT} {ls : Array Slot} {h h' : jm_M} {pc : Nat}
theorem jm_pre {av : List Value} (hF : jm_Fx D cs r p s m args meth c) (hP : va_P D jm_cl0 (jm_ws ad cs h) H) (hD : va_D A (jm_ws ad cs h)) : ∀ U : State, U.heap = H → s.WarmedH U.vm → va_Pc av (jm_Wd D A ad cs h) av.toArray U := fun U hU hW =>
  ⟨rfl, by rw [hU]; exact hP, va_K.moved hW.alike hF.2.2.2.2.2.1, hD, jm_N_warm hW hF.2.2.2.2.2.2.1⟩
/-- behind a call -/
theorem jm_cont {u : Option jm_V} {st0 rest : List Value} {a : Array Value} (hr : va_Run p l e R s m args below meth c H locs 0 0 0 0 (F0 m pc ls st0) rest (jm_Q D A ad cs (u, h') a) A) (hS : va_S A H0 H locs)
    (kk : ∀ (H1 : Heap) (locs1 : List Loc), va_P D jm_cl0 (jm_ws ad cs h') H1 → va_D A (jm_ws ad cs h') → va_S A H0 H1 locs1 → W p l e R s m args below meth c H1 locs1 0 0 Q (F0 m (pc + 3) ls ((u.toList.map (jm_cv ad)) ++ rest))) : W p l e R s m args below meth c H locs 0 0 Q (F0 m pc ls st0) := by
  rcases u with _ | x | x | x
  · refine va_callv (a := a) hr hS (fun _ _ h => h) (fun _ h => h) (fun u t H1 locs1 ht _ hp hB _ _ hS' => ?_)
    obtain ⟨hP, -, hD, -⟩ := hB
    subst ht
    subst hp
    exact kk _ _ hP hD hS'
  · refine va_calli (a := a) hr hS (fun _ _ h => h) (fun _ h => h) (fun y u t H1 locs1 ht _ hp hB _ _ hS' => ?_)
    obtain ⟨hP, -, hD, -⟩ := hB
    obtain ⟨rfl, rfl⟩ := hp
    subst ht
    exact kk _ _ hP hD hS'
  · refine va_calll (a := a) hr hS (fun _ _ h => h) (fun _ h => h) (fun y u t H1 locs1 ht _ hp hB _ _ hS' => ?_)
    obtain ⟨hP, -, hD, -⟩ := hB
    obtain ⟨rfl, rfl⟩ := hp
    subst ht
    exact kk _ _ hP hD hS'
  · intro T hT X
    obtain ⟨_, _, _, _, _, _, _, _, _, _, hq, _⟩ := hr T hT X
    exact hq.elim
theorem jm_st_split {ad : jm_K → Nat} (st : List jm_V) (n : Nat) : st.map (jm_cv ad) = (((st.take n).reverse).map (jm_cv ad)).reverse ++ (st.drop n).map (jm_cv ad) := by
  rw [← List.map_reverse, List.reverse_reverse, ← List.map_append, List.take_append_drop]
set_option maxHeartbeats 4000000 in
set_option maxRecDepth 100000 in
/-- a call, up to what stands behind it -/
theorem jm_call_W {i : Instr} {st as rest : List jm_V} {mi' : Nat} {out : Option jm_V × jm_M} (hc : jm_call r.2.2.2.2.2.2 i st = some (mi', as, rest)) (hr' : jm_mt[mi']? = some r') (hfit : jm_fit r r' as rest = true)
    (hF : jm_Fx D cs r p s m args meth c) (hd : decode r.2.1 pc = .ok (i, 3)) (hos : jm_oks st)
    (hM : jm_oks as → Met l r'.1 (jm_wsM r') (jm_R r') (va_Pc (as.map (jm_cv ad)) (jm_Wd D A ad cs h)) (jm_Q D A ad cs out) 0 0 A)
    (hl : ls.size = r.2.2.1) (hP : va_P D jm_cl0 (jm_ws ad cs h) H) (hD : va_D A (jm_ws ad cs h)) :
    va_Run p l e (jm_R r) s m args below meth c H locs 0 0 0 0 (F0 m pc ls (st.map (jm_cv ad))) (rest.map (jm_cv ad)) (jm_Q D A ad cs out (as.map (jm_cv ad)).toArray) A ∧ jm_oks rest := by
  have hG := jm_good hr'
  have hpre := fun av => jm_pre (av := av) hF hP hD
  obtain ⟨hx, hb, hml, hown, hts, hK, hN, hrt, hlocks, hon⟩ := hF
  unfold jm_fit at hfit
  simp only [Bool.and_eq_true, decide_eq_true_eq] at hfit
  obtain ⟨⟨⟨hf1, hf2⟩, hf3⟩, hf4⟩ := hfit
  have hwr : 2 * (F0 m pc ls (st.map (jm_cv ad))).monitorRoom + ((rest.map (jm_cv ad)).map fun v => v.category).sum ≤ 8 := lv_room (by rw [jm_wsum_cv]; exact hf3)
  have hcode := hts _ (jm_mt_code hr').1
  have hcm : Cond.code r'.1 r'.2.1 r'.2.2.1 r'.2.2.2.1 ∈ jm_wsM r' := List.mem_cons_self
  unfold jm_call at hc
  split at hc
  · -- invokestatic
    rename_i idx
    split at hc
    · rename_i kd n t hlk
      split at hc
      · rename_i hcond
        cases hc
        have hw := jm_lk_all (P := jm_cok jm_mt) jm_cs_all hon hlk
        unfold jm_cok at hw
        simp only [List.all_cons, List.all_nil, Bool.and_true] at hw
        rw [hr'] at hw
        dsimp only at hw
        unfold jm_cok1 at hw
        rw [Bool.and_eq_true] at hw
        obtain ⟨hpar, hw⟩ := hw
        have hle := hcond.2
        have hlen : (((st.take n).reverse).map (jm_cv ad)).length = n := by simp; omega
        have hst := jm_st_split (ad := ad) st n
        have hoa : jm_oks (st.take n).reverse := fun v hv => hos v (List.mem_of_mem_take (List.mem_reverse.mp hv))
        refine ⟨?_, fun v hv => hos v (List.mem_of_mem_drop hv)⟩
        split at hw
        · simp only [Bool.and_eq_true] at hw
          obtain ⟨⟨h1, h2⟩, h3⟩ := hw
          exact va_runS ⟨hx, hb, hml, hown, hts⟩ (hM hoa) ⟨callB_of n hts hG rfl rfl rfl (hts _ (jm_at_T h3)) (hts _ (jm_at_T h1)) (jm_par_spec hpar) ⟨hf1, hf2⟩, hts _ (jm_at_T h2)⟩ ⟨jm_blind, hpre _⟩ rfl hlen hl hst hwr hd ⟨Nat.le_refl _, Nat.le_refl _⟩
        · simp only [Bool.and_eq_true] at hw
          obtain ⟨⟨h1, h2⟩, h3⟩ := hw
          exact va_runSN ⟨hx, hb, hml, hown, hts⟩ (hM hoa) ⟨va_cnB n hts hG rfl rfl rfl (hN _ (jm_at_N h1)) (hts _ (jm_at_T h3)) (jm_par_spec hpar) ⟨hf1, hf2⟩, hts _ (jm_at_T h2), trivial⟩ ⟨jm_blind, hpre _⟩ rfl hlen hl hst hwr hd ⟨Nat.le_refl _, Nat.le_refl _⟩
        · exact absurd hcond.1 (by decide)
        · exact absurd hcond.1 (by decide)
        · exact absurd hcond.1 (by decide)
        · cases hw
      · cases hc
    · cases hc
  · -- invokespecial
    rename_i idx
    split at hc
    · rename_i n t k0 rr hlk hst0
      rw [hlk] at hst0
      dsimp only [Option.map_some, Option.getD_some] at hst0
      split at hc
      · rename_i pq hsh
        obtain ⟨ci, fs⟩ := pq
        cases hc
        have hw := jm_lk_all (P := jm_cok jm_mt) jm_cs_all hon hlk
        unfold jm_cok at hw
        simp only [List.all_cons, List.all_nil, Bool.and_true] at hw
        rw [hr'] at hw
        dsimp only at hw
        unfold jm_cok1 at hw
        rw [Bool.and_eq_true] at hw
        obtain ⟨hpar, hw⟩ := hw
        have hnl : n < st.length := by
          rcases Nat.lt_or_ge n st.length with q | q
          · exact q
          · rw [List.drop_eq_nil_of_le q] at hst0; cases hst0
        have hlen : (((st.take n).reverse).map (jm_cv ad)).length = n := by simp; omega
        have hst := jm_st_split (ad := ad) st n
        rw [hst0, List.map_cons] at hst
        have hok0 : ∀ v ∈ (Sum.inr (Sum.inr k0) : jm_V) :: rest, jm_okv v := fun v hv => hos v (List.mem_of_mem_drop (by rw [hst0]; exact hv))
        have hk0 : k0 ∈ jm_ks := hok0 _ List.mem_cons_self
        have hoa : jm_oks ((Sum.inr (Sum.inr k0) : jm_V) :: (st.take n).reverse) := jm_oks_cons hk0 (fun v hv => hos v (List.mem_of_mem_take (List.mem_reverse.mp hv)))
        refine ⟨?_, fun v hv => hok0 v (List.mem_cons_of_mem _ hv)⟩
        obtain ⟨q0, hq0, hq1⟩ := jm_ws_get (ad := ad) (cs := cs) (h := h) hk0
        obtain ⟨q, hq, -, -⟩ := jm_obj hk0 hsh
        rw [hsh] at hq1
        split at hw
        · rename_i heq _; exact absurd heq (by decide)
        · rename_i heq _; exact absurd heq (by decide)
        · rename_i heq _; exact absurd heq (by decide)
        · rename_i heq _; exact absurd heq (by decide)
        · simp only [Bool.and_eq_true, decide_eq_true_eq] at hw
          obtain ⟨⟨⟨⟨⟨h1, h2⟩, h3⟩, h4⟩, h5⟩, h6⟩ := hw
          exact va_runSU (C := q.1) (hK.1 ci q hq).2 ⟨hx, hb, hml, hown, hts⟩ (hM hoa) ⟨⟨rfl, rfl, hf1, hf2, pay_in hts hG, hcm⟩, hts _ (jm_at_T h1), hts _ (jm_at_T h2), hts _ (jm_at_T h3), hts _ (jm_at_T h4), hts _ (jm_at_T h5), hcode, h6, jm_len_par hpar⟩ ⟨jm_blind, va_recv hK hP hq hq1, hpre _⟩ rfl hlen hl hst hwr hd ⟨Nat.le_refl _, Nat.le_refl _⟩
        · cases hw
      · cases hc
    · cases hc
  · -- invokevirtual
    rename_i idx
    split at hc
    · rename_i kd n ts k0 rr hlk hst0
      rw [hlk] at hst0
      dsimp only [Option.map_some, Option.getD_some] at hst0
      split at hc
      · rename_i ci fs hsh
        split at hc
        · rename_i t hlt
          split at hc
          · rename_i hkd
            cases hc
            have hw := jm_lk_all (P := jm_cok jm_mt) jm_cs_all hon hlk
            unfold jm_cok at hw
            have hw := List.all_eq_true.mp hw _ (jm_lookup_mem hlt)
            dsimp only at hw
            rw [hr'] at hw
            dsimp only at hw
            unfold jm_cok1 at hw
            rw [Bool.and_eq_true] at hw
            obtain ⟨hpar, hw⟩ := hw
            have hnl : n < st.length := by
              rcases Nat.lt_or_ge n st.length with q | q
              · exact q
              · rw [List.drop_eq_nil_of_le q] at hst0; cases hst0
            have hlen : (((st.take n).reverse).map (jm_cv ad)).length = n := by simp; omega
            have hst := jm_st_split (ad := ad) st n
            rw [hst0, List.map_cons] at hst
            have hok0 : ∀ v ∈ (Sum.inr (Sum.inr k0) : jm_V) :: rest, jm_okv v := fun v hv => hos v (List.mem_of_mem_drop (by rw [hst0]; exact hv))
            have hk0 : k0 ∈ jm_ks := hok0 _ List.mem_cons_self
            have hoa : jm_oks ((Sum.inr (Sum.inr k0) : jm_V) :: (st.take n).reverse) := jm_oks_cons hk0 (fun v hv => hos v (List.mem_of_mem_take (List.mem_reverse.mp hv)))
            refine ⟨?_, fun v hv => hok0 v (List.mem_cons_of_mem _ hv)⟩
            obtain ⟨q0, hq0, hq1⟩ := jm_ws_get (ad := ad) (cs := cs) (h := h) hk0
            obtain ⟨q, hq, -, -⟩ := jm_obj hk0 hsh
            rw [hsh] at hq1
            have hnm : jm_nm ci = q.1 := by unfold jm_nm; rw [hq]
            split at hw
            · exact absurd hkd (by decide)
            · exact absurd hkd (by decide)
            · simp only [Bool.and_eq_true, decide_eq_true_eq] at hw
              obtain ⟨⟨⟨⟨h1, h2⟩, h3⟩, h4⟩, h5⟩ := hw
              have h3 := jm_at_T h3
              rw [hnm] at h3
              exact va_runV (C := q.1) ⟨hx, hb, hml, hown, hts⟩ (hM hoa) ⟨callB_of n hts hG rfl rfl rfl (hts _ (jm_at_T h4)) (hts _ (jm_at_T h1)) (jm_par_spec hpar) ⟨hf1, hf2⟩, hts _ (jm_at_T h2), hts _ h3⟩ ⟨jm_blind, va_recv hK hP hq hq1, hpre _⟩ rfl hlen hl hst hwr hd ⟨Nat.le_refl _, Nat.le_refl _⟩
            · simp only [Bool.and_eq_true] at hw
              obtain ⟨⟨⟨⟨⟨⟨h1, h2⟩, h3⟩, h4⟩, h5⟩, h6⟩, h7⟩ := hw
              have h4 := jm_at_T h4
              rw [hnm] at h4
              split at h7
              · rename_i x0 b0 m0 r0 hz
                simp only [Bool.and_eq_true, decide_eq_true_eq] at h7
                have hz2 : Cond.code x0 b0 m0 r0 ∈ jm_T := List.mem_filter.mpr ⟨List.mem_of_getElem? hz, h7.2⟩
                rw [h7.1] at hz2
                have hcu : va_CU (jm_R r) s args r.1.cls q.1 "PapersAreOnCats$Cat" idx ⟨"PapersAreOnCats$Cat", r'.1.name, r'.1.desc⟩ r'.1 r'.2.1 r'.2.2.1 r'.2.2.2.1 (jm_wsM r') (jm_R r') 0 0 n :=
                  ⟨⟨rfl, rfl, hf1, hf2, pay_in hts hG, hcm⟩, hcode, hts _ (jm_at_T h6), ⟨by decide, by decide⟩, jm_len_par (y := r'.1) hpar, hts _ (jm_at_T h1), hts _ (jm_at_T h2), va_Decl.of (hts _ (jm_at_T h3)) (hts _ hz2), hts _ h4, hts _ (jm_at_T h5)⟩
                exact va_runU ⟨hx, hb, hml, hown, hts⟩ (hM hoa) hcu ⟨jm_blind, va_recv hK hP hq hq1, hpre _⟩ rfl hlen hl hst hwr hd ⟨Nat.le_refl _, Nat.le_refl _⟩
              · cases h7
            · exact absurd hkd (by decide)
            · cases hw
          · cases hc
        · cases hc
      · cases hc
    · cases hc
  · cases hc
/-- the end of a method -/
theorem jm_ret_W {i : Instr} {len : Nat} {st : List jm_V} {cnd : Prop} {u : Option jm_V} (hret : jm_ret r.2.2.2.1 i st = some (cnd, u)) (hc : cnd) (hF : jm_Fx D cs r p s m args meth c) (hd : decode r.2.1 pc = .ok (i, len)) (hn : len = jm_len i ∨ jm_sw i = true)
    (hP : va_P D jm_cl0 (jm_ws ad cs h) H) (hD : va_D A (jm_ws ad cs h)) (hS : va_S A s.heap H locs) :
    W p l e (jm_R r) s m args below meth c H locs 0 0 (MQ below (jm_Q D A ad cs (u, h)) args s 0 0 A) (F0 m pc ls (st.map (jm_cv ad))) := by
  obtain ⟨hx, hb, hml, hown, hts, hK, hN, hrt, hlocks, hon⟩ := hF
  unfold jm_ret at hret
  split at hret
  · rename_i hty
    cases hret
    obtain rfl : len = 1 := by simpa [jm_len, jm_sw] using hn
    exact W.vret hx hb (hrt.trans hty) (fun t ht hW => ⟨⟨h, rfl, rfl, by rw [ht]; exact hP, va_K.moved hW.alike hK, hD, jm_N_warm hW hN⟩, hS.F ht⟩) hS.2.2 hd hlocks
  · rename_i x hty
    cases hret
    obtain rfl : len = 1 := by simpa [jm_len, jm_sw] using hn
    exact W.iret hx hb (hrt.trans hty) (fun t ht hW => ⟨⟨x, h, rfl, ⟨rfl, rfl⟩, by rw [ht]; exact hP, va_K.moved hW.alike hK, hD, jm_N_warm hW hN⟩, hS.F ht⟩) hS.2.2 hd hlocks
  · rename_i x hty
    cases hret
    obtain rfl : len = 1 := by simpa [jm_len, jm_sw] using hn
    exact W.zret hx hb (hrt.trans hty) (by rcases hc with rfl | rfl <;> rfl) (fun t ht hW => ⟨⟨x, h, rfl, ⟨rfl, rfl⟩, by rw [ht]; exact hP, va_K.moved hW.alike hK, hD, jm_N_warm hW hN⟩, hS.F ht⟩) hS.2.2 hd hlocks
  · rename_i x hty
    cases hret
    obtain rfl : len = 1 := by simpa [jm_len, jm_sw] using hn
    exact W.lret hx hb (hrt.trans hty) (fun t ht hW => ⟨⟨x, h, rfl, ⟨rfl, rfl⟩, by rw [ht]; exact hP, va_K.moved hW.alike hK, hD, jm_N_warm hW hN⟩, hS.F ht⟩) hS.2.2 hd hlocks
  · cases hret
end JMD
def jm_RW (n : Nat) : Prop := ∀ (mi : Nat) (r : jm_MT) (f : jm_F) (out : Option jm_V × jm_M), jm_mt[mi]? = some r → jm_Rn n mi f out → ∀ (D : va_G) (A : Nat → Prop) (ad : jm_K → Nat) (cs : Nat → ClassId) (p : Program) (l : Launch) (e : Env) (s : State) (m : MethodId) (args : Array Value) (below : List Frame) (meth : Method) (c : Code) (H : Heap) (locs : List Loc) (ls : Array Slot), jm_Fx D cs r p s m args meth c → jm_Fr D A ad cs s.heap r.2.2.1 f ls H locs → W p l e (jm_R r) s m args below meth c H locs 0 0 (MQ below (jm_Q D A ad cs out) args s 0 0 A) (F0 m f.1 ls (f.2.2.1.map (jm_cv ad)))
theorem jm_met {n : Nat} (hn : jm_RW n) {mi : Nat} {r : jm_MT} {as : List jm_V} {h : jm_M} {out : Option jm_V × jm_M} (hr : jm_mt[mi]? = some r) (hR : jm_Rn n mi (0, jm_args 0 as, [], h) out) (hok : jm_oks as) (hsz : jm_wsum as ≤ r.2.2.1) (l : Launch) (D : va_G) (A : Nat → Prop) (ad : jm_K → Nat) (cs : Nat → ClassId) :
    Met l r.1 (jm_wsM r) (jm_R r) (va_Pc (as.map (jm_cv ad)) (jm_Wd D A ad cs h)) (jm_Q D A ad cs out) 0 0 A := by
  refine Met.ofW (cc := r.2.1) (maxL := r.2.2.1) (ret := r.2.2.2.1) (jm_mt_code hr).2 rfl ?_
  intro p e s m args below meth c s₁ B hml hv
  obtain ⟨rfl, hP, hK, hD, hN⟩ := hv
  have hts := atoms_spec (ws := jm_wsM r) B.pre
  rw [lg_entry_eq]
  have hl := lv_entry (as.map (jm_cv ad)) (n := r.2.2.1) (by rw [jm_sl_len]; exact hsz)
  rw [jm_args_cv] at hl
  generalize (lg_sl (as.map (jm_cv ad)) ++ List.replicate (r.2.2.1 - (lg_sl (as.map (jm_cv ad))).length) Slot.unset).toArray = ls at hl ⊢
  exact hn mi r (0, jm_args 0 as, [], h) out hr hR D A ad cs p l e s m _ below meth c s.heap [] ls ⟨B.exec, B.bytes, hml, findClass_of_methodNamed B.named, fun w hw => hts w (List.mem_cons_of_mem _ hw), hK, hN, B.returns, B.notSynchronized, jm_mt_own hr⟩ ⟨hl, jm_okl_args hok 0, jm_oks_nil, hP, hD, va_S.rf⟩
theorem jm_in_of {mi : Nat} {r : jm_MT} {il : List jm_IT} (hr : jm_mt[mi]? = some r) (hil : jm_is[mi]? = some il) : (il, r) ∈ jm_is.zip jm_mt := by
  refine List.mem_iff_getElem?.mpr ⟨mi, ?_⟩
  rw [List.getElem?_zip_eq_some]
  exact ⟨hil, hr⟩
theorem jm_noref : ∀ {n mi : Nat} {f : jm_F} {k : jm_K} {h : jm_M}, jm_Rn n mi f (some (.inr (.inr k)), h) → False := by
  intro n
  induction n with
  | zero => intro mi f k h hR; exact hR
  | succ n ih =>
    intro mi f k h hR
    rcases hR with ⟨ks, h1⟩ | ⟨r1, il, i, len, v, hr1, hil, hlk, ⟨cd, f', hs, hc, h1⟩ | ⟨mi', r', as, rest, u, h', hcall, hr', hfit, hRc, h1⟩ | ⟨cd, u, hret, hc, he⟩⟩
    · exact ih h1
    · exact ih h1
    · exact ih h1
    · have hu : u = some (.inr (.inr k)) := (congrArg Prod.fst he).symm
      subst hu
      unfold jm_ret at hret
      split at hret <;> cases hret
set_option maxHeartbeats 4000000 in
theorem jm_run_W : ∀ n : Nat, jm_RW n := by
  intro n
  induction n with
  | zero => intro mi r f out hr h; exact h.elim
  | succ n ih =>
    intro mi r f out hr hRn D A ad cs p l e s m args below meth c H locs ls hF hf
    obtain ⟨hl, hol, hos, hP, hD, hS⟩ := id hf
    rcases hRn with ⟨ks, h1⟩ | ⟨r1, il, i, len, v, hr1, hil, hlk, h1⟩
    · refine ih mi r _ out hr h1 D A ad cs p l e s m args below meth c H locs ls hF ⟨lv_sub hl ks ?_, fun q hq => ?_, hos, hP, hD, hS⟩
      · simp only [lv_pick, jm_pick, jm_cvl, List.map_filterMap, List.getElem?_map]
      · obtain ⟨k, -, hk⟩ := List.mem_filterMap.mp hq
        exact hol q (List.mem_of_getElem? hk)
    · obtain rfl : r1 = r := Option.some.inj (hr1.symm.trans hr)
      have hz : (il, r1) ∈ jm_is.zip jm_mt := jm_in_of hr hil
      have hm := jm_lookup_mem hlk
      have h2 := List.all_eq_true.mp (List.all_eq_true.mp jm_is_all _ hz) _ hm
      have h3 := List.all_eq_true.mp (List.all_eq_true.mp jm_lib_ok _ hz) _ hm
      have h4 := List.all_eq_true.mp (List.all_eq_true.mp jm_loc_ok _ hz) _ hm
      unfold jm_inok at h2
      simp only [Bool.and_eq_true, Bool.or_eq_true, decide_eq_true_eq] at h2
      obtain ⟨⟨⟨hd, hn⟩, ho⟩, hv⟩ := h2
      rcases h1 with ⟨cd, f', hs, hc, hRn⟩ | ⟨mi', r', as, rest, u, h', hcall, hr', hfit, hRc, hRn⟩ | ⟨cd, u, hret, hc, rfl⟩
      · refine jm_step_W hF hd hn ho hv ?_ hf hs hc ?_ (fun ls' H' locs' hf' => ih mi r1 f' out hr hRn D A ad cs p l e s m args below meth c H' locs' ls' hF hf')
        · intro idx hi
          subst hi
          simp only [Bool.or_eq_true, Bool.and_eq_true, decide_eq_true_eq] at h3
          exact h3
        · intro k hk
          dsimp only at h4
          rw [hk] at h4
          exact of_decide_eq_true h4
      · have hlen : len = 3 := by
          have hi : (∃ idx, i = .invokestatic idx) ∨ (∃ idx, i = .invokespecial idx) ∨ ∃ idx, i = .invokevirtual idx := by
            unfold jm_call at hcall
            split at hcall
            · exact Or.inl ⟨_, rfl⟩
            · exact Or.inr (Or.inl ⟨_, rfl⟩)
            · exact Or.inr (Or.inr ⟨_, rfl⟩)
            · cases hcall
          rcases hi with ⟨idx, rfl⟩ | ⟨idx, rfl⟩ | ⟨idx, rfl⟩ <;> simpa [jm_len, jm_sw] using hn
        subst hlen
        have hfit2 := hfit
        unfold jm_fit at hfit2
        simp only [Bool.and_eq_true, decide_eq_true_eq] at hfit2
        obtain ⟨hrun, hor⟩ := jm_call_W (below := below) (locs := locs) (l := l) (e := e) (out := (u, h')) hcall hr' hfit hF hd hos (fun hoa => jm_met ih hr' hRc hoa hfit2.2 l D A ad cs) hl.1 hP hD
        refine jm_cont hrun hS (fun H1 locs1 hP1 hD1 hS1 => ?_)
        have hq := ih mi r1 (f.1 + 3, f.2.1, u.toList ++ rest, h') out hr hRn D A ad cs p l e s m args below meth c H1 locs1 ls hF ⟨hl, hol, ?_, hP1, hD1, hS1⟩
        · dsimp only at hq
          rw [List.map_append] at hq
          exact hq
        · intro v hv
          rcases List.mem_append.mp hv with q | q
          · rcases u with _ | x | x | x
            · cases q
            · rw [List.mem_singleton.mp q]; trivial
            · rw [List.mem_singleton.mp q]; trivial
            · exfalso
              exact jm_noref hRc
          · exact hor v q
      · exact jm_ret_W hret hc hF hd hn hP hD hS
end
section
/-! THE SMALL MACHINE: what holds at a method's end, and the rows by which its code is walked. -/
def jt_T (mi : Nat) (f : jm_F) (Q : Option jm_V → jm_M → Prop) : Prop := ∃ (n : Nat) (u : Option jm_V) (h : jm_M), jm_Rn n mi f (u, h) ∧ Q u h
theorem jm_Rn_succ : ∀ {n mi : Nat} {f : jm_F} {out : Option jm_V × jm_M}, jm_Rn n mi f out → jm_Rn (n + 1) mi f out := by
  intro n
  induction n with
  | zero => intro mi f out h; exact h.elim
  | succ n ih =>
    intro mi f out hR
    rcases hR with ⟨ks, h1⟩ | ⟨r1, il, i, len, v, hr1, hil, hlk, ⟨cd, f', hs, hc, h1⟩ | ⟨mi', r', as, rest, u, h', hcall, hr', hfit, hRc, h1⟩ | h1⟩
    · exact Or.inl ⟨ks, ih h1⟩
    · exact Or.inr ⟨r1, il, i, len, v, hr1, hil, hlk, Or.inl ⟨cd, f', hs, hc, ih h1⟩⟩
    · exact Or.inr ⟨r1, il, i, len, v, hr1, hil, hlk, Or.inr (Or.inl ⟨mi', r', as, rest, u, h', hcall, hr', hfit, ih hRc, ih h1⟩)⟩
    · exact Or.inr ⟨r1, il, i, len, v, hr1, hil, hlk, Or.inr (Or.inr h1)⟩
theorem jm_Rn_le {n k mi : Nat} {f : jm_F} {out : Option jm_V × jm_M} (hk : n ≤ k) (h : jm_Rn n mi f out) : jm_Rn k mi f out := by
  induction hk with
  | refl => exact h
  | step _ ih => exact jm_Rn_succ ih
theorem jt_mono {mi : Nat} {f : jm_F} {Q Q' : Option jm_V → jm_M → Prop} (h : jt_T mi f Q) (hq : ∀ u h, Q u h → Q' u h) : jt_T mi f Q' := by
  obtain ⟨n, u, m, h1, h2⟩ := h
  exact ⟨n, u, m, h1, hq u m h2⟩
/-- what is used of a method's row: its instructions, its owner, what it returns, frames, words, locals -/
def jm_Me (mi own : Nat) (il : List jm_IT) (ret : Option FieldType) (fr lo mx : Nat) : Prop := jm_is[mi]? = some il ∧ ∃ r : jm_MT, jm_mt[mi]? = some r ∧ r.2.2.2.2.2.2 = own ∧ r.2.2.2.1 = ret ∧ r.2.2.2.2.1 = fr ∧ r.2.2.2.2.2.1 = lo ∧ r.2.2.1 = mx
def jm_srt : List jm_IT → Bool
  | q1 :: q2 :: t => Nat.blt q1.1 q2.1 && jm_srt (q2 :: t)
  | _ => true
set_option maxRecDepth 100000 in
theorem jm_srt_ok : jm_is.all jm_srt = true := by decide +kernel
theorem jm_srt_lt : ∀ (l : List jm_IT) (q0 : jm_IT), jm_srt (q0 :: l) = true → ∀ q ∈ l, q0.1 < q.1 := by
  intro l
  induction l with
  | nil => intro q0 _ q hq; cases hq
  | cons q1 t ih =>
    intro q0 h q hq
    simp only [jm_srt, Bool.and_eq_true] at h
    have h1 : q0.1 < q1.1 := by have := h.1; simp [Nat.blt] at this; omega
    rcases List.mem_cons.mp hq with rfl | hq
    · exact h1
    · exact Nat.lt_trans h1 (ih q1 h.2 q hq)
theorem jm_srt_tail {q0 : jm_IT} {l : List jm_IT} (h : jm_srt (q0 :: l) = true) : jm_srt l = true := by
  cases l with
  | nil => rfl
  | cons q1 t => simp only [jm_srt, Bool.and_eq_true] at h; exact h.2
theorem jm_srt_get : ∀ (a : Nat) (il : List jm_IT) (q : jm_IT), jm_srt il = true → il[a]? = some q → il.lookup q.1 = some q.2 := by
  intro a
  induction a with
  | zero =>
    intro il q _ h
    cases il with
    | nil => simp at h
    | cons q0 l =>
      simp only [List.getElem?_cons_zero, Option.some.injEq] at h
      subst h
      simp [List.lookup]
  | succ a ih =>
    intro il q hs h
    cases il with
    | nil => simp at h
    | cons q0 l =>
      rw [List.getElem?_cons_succ] at h
      have h1 := jm_srt_lt l q0 hs q (List.mem_of_getElem? h)
      have h2 : (q.1 == q0.1) = false := by simp; omega
      rw [List.lookup_cons, h2]
      exact ih l q (jm_srt_tail hs) h
theorem jm_Me_lk {mi own : Nat} {il : List jm_IT} {ret : Option FieldType} {fr lo mx a : Nat} {q : jm_IT} (hm : jm_Me mi own il ret fr lo mx) (h : il[a]? = some q) : il.lookup q.1 = some q.2 :=
  jm_srt_get a il q (List.all_eq_true.mp jm_srt_ok il (List.mem_of_getElem? hm.1)) h
/-- k instructions that stand one behind the other -/
def jm_go (own : Nat) : List jm_IT → Nat → jm_F → Option (Prop × jm_F)
  | _, 0, f => some (True, f)
  | [], _ + 1, _ => none
  | q :: t, k + 1, f => match Nat.beq q.1 f.1, jm_step own q.2.1 q.2.2.1 q.2.2.2 f with
    | true, some (none, f') => jm_go own t k f'
    | true, some (some p, f') => (match jm_go own t k f' with
      | some (P, f'') => some (p ∧ P, f'')
      | none => none)
    | _, _ => none
section JMT
variable {mi own fr lo mx pc nxt tgt : Nat} {il : List jm_IT} {ret : Option FieldType} {Q Q' : Option jm_V → jm_M → Prop} {L L' : jm_L} {st : List jm_V} {h : jm_M} {v : Int32} {x y : Int32} {o : Int}
theorem jt_step1 (hm : jm_Me mi own il ret fr lo mx) {a len : Nat} {i : Instr} (hq : il[a]? = some (pc, i, len, v)) {c : Option Prop} {f' : jm_F} (hs : jm_step own i len v (pc, L, st, h) = some (c, f')) (hc : jm_hold c) (k : jt_T mi f' Q) : jt_T mi (pc, L, st, h) Q := by
  obtain ⟨n, u, m, h1, h2⟩ := k
  have hlk := jm_Me_lk hm hq
  obtain ⟨hil, r, hr, rfl, -⟩ := hm
  exact ⟨n + 1, u, m, Or.inr ⟨r, il, i, len, v, hr, hil, hlk, Or.inl ⟨c, f', hs, hc, h1⟩⟩, h2⟩
theorem jt_goA (hm : jm_Me mi own il ret fr lo mx) : ∀ (k a : Nat) (f f' : jm_F) (P : Prop), jm_go own (il.drop a) k f = some (P, f') → P → jt_T mi f' Q → jt_T mi f Q := by
  intro k
  induction k with
  | zero =>
    intro a f f' P hg hP hT
    have e : some (True, f) = some (P, f') := by
      rw [← hg]
      cases il.drop a <;> rfl
    cases e
    exact hT
  | succ k ih =>
    intro a f f' P hg hP hT
    cases hd : il.drop a with
    | nil => rw [hd] at hg; cases hg
    | cons q t =>
      have hget : il[a]? = some q := by
        have := congrArg List.head? hd
        rwa [List.head?_drop] at this
      have ht : il.drop (a + 1) = t := by
        rw [← List.drop_drop, hd]; rfl
      rw [hd] at hg
      unfold jm_go at hg
      split at hg
      · rename_i g' hb hs
        have hpc : q.1 = f.1 := Nat.eq_of_beq_eq_true hb
        obtain ⟨qa, qb, qc, qd⟩ := q
        obtain ⟨fa, fb, fc, fd⟩ := f
        dsimp only at hpc hs
        subst hpc
        exact jt_step1 hm hget hs trivial (ih (a + 1) g' f' P (by rw [ht]; exact hg) hP hT)
      · rename_i p g' hb hs
        have hpc : q.1 = f.1 := Nat.eq_of_beq_eq_true hb
        obtain ⟨qa, qb, qc, qd⟩ := q
        obtain ⟨fa, fb, fc, fd⟩ := f
        dsimp only at hpc hs
        subst hpc
        split at hg
        · rename_i P2 g2 hg2
          cases hg
          exact jt_step1 hm hget hs hP.1 (ih (a + 1) g' _ P2 (by rw [ht]; exact hg2) hP.2 hT)
        · cases hg
      · cases hg
theorem jt_go (hm : jm_Me mi own il ret fr lo mx) (a k : Nat) {f f' : jm_F} {P : Prop} (hg : jm_go own (il.drop a) k f = some (P, f')) (hP : P) (hT : jt_T mi f' Q) : jt_T mi f Q := jt_goA hm k a f f' P hg hP hT
/-- the same, the memory behind it by a name -/
theorem jt_goM (hm : jm_Me mi own il ret fr lo mx) (a k : Nat) {f : jm_F} {pc' : Nat} {L' : jm_L} {st' : List jm_V} {m' : jm_M} {P : Prop} (hg : jm_go own (il.drop a) k f = some (P, pc', L', st', m')) (hP : P) (hT : ∀ h1 : jm_M, h1 = m' → jt_T mi (pc', L', st', h1) Q) : jt_T mi f Q := jt_goA hm k a f _ P hg hP (hT _ rfl)
theorem jt_pick (ks : List Nat) (hp : jm_pick L ks = L') (k : jt_T mi (pc, L', st, h) Q) : jt_T mi (pc, L, st, h) Q := by
  obtain ⟨n, u, m, h1, h2⟩ := k
  subst hp
  exact ⟨n + 1, u, m, Or.inl ⟨ks, h1⟩, h2⟩
theorem jt_ifA (hm : jm_Me mi own il ret fr lo mx) {a : Nat} {c : ClassFile.Cond} (hq : il[a]? = some (pc, .ifCond c o, 3, v)) (k : jt_T mi (jm_br c x 0 (jm_tg pc o) (pc + 3), L, st, h) Q) : jt_T mi (pc, L, .inl x :: st, h) Q :=
  jt_step1 hm hq (c := none) rfl trivial k
theorem jt_icmpA (hm : jm_Me mi own il ret fr lo mx) {a : Nat} {c : ClassFile.Cond} (hq : il[a]? = some (pc, .if_icmp c o, 3, v)) (k : jt_T mi (jm_br c x y (jm_tg pc o) (pc + 3), L, st, h) Q) : jt_T mi (pc, L, .inl y :: .inl x :: st, h) Q :=
  jt_step1 hm hq (c := none) rfl trivial k
theorem jm_br_lt {t e : Nat} (ht : x < y → jt_T mi (t, L, st, h) Q) (he : ¬ x < y → jt_T mi (e, L, st, h) Q) : jt_T mi (jm_br .lt x y t e, L, st, h) Q := by
  unfold jm_br; dsimp only; split
  · exact ht ‹_›
  · exact he ‹_›
theorem jm_br_ge {t e : Nat} (ht : ¬ x < y → jt_T mi (t, L, st, h) Q) (he : x < y → jt_T mi (e, L, st, h) Q) : jt_T mi (jm_br .ge x y t e, L, st, h) Q := by
  unfold jm_br; dsimp only; split
  · rename_i q; exact ht (Int32.not_lt.mpr q)
  · rename_i q; exact he (Int32.not_le.mp q)
theorem jm_br_gt {t e : Nat} (ht : y < x → jt_T mi (t, L, st, h) Q) (he : ¬ y < x → jt_T mi (e, L, st, h) Q) : jt_T mi (jm_br .gt x y t e, L, st, h) Q := by
  unfold jm_br; dsimp only; split
  · exact ht ‹_›
  · exact he ‹_›
theorem jm_br_le {t e : Nat} (ht : ¬ y < x → jt_T mi (t, L, st, h) Q) (he : y < x → jt_T mi (e, L, st, h) Q) : jt_T mi (jm_br .le x y t e, L, st, h) Q := by
  unfold jm_br; dsimp only; split
  · rename_i q; exact ht (Int32.not_lt.mpr q)
  · rename_i q; exact he (Int32.not_le.mp q)
theorem jm_br_eq {t e : Nat} (ht : x = y → jt_T mi (t, L, st, h) Q) (he : ¬ x = y → jt_T mi (e, L, st, h) Q) : jt_T mi (jm_br .eq x y t e, L, st, h) Q := by
  unfold jm_br; dsimp only; split
  · exact ht ‹_›
  · exact he ‹_›
theorem jm_br_ne {t e : Nat} (ht : ¬ x = y → jt_T mi (t, L, st, h) Q) (he : x = y → jt_T mi (e, L, st, h) Q) : jt_T mi (jm_br .ne x y t e, L, st, h) Q := by
  unfold jm_br; dsimp only; split
  · exact he ‹_›
  · exact ht ‹_›
theorem jt_iflt (hm : jm_Me mi own il ret fr lo mx) (a : Nat) (hq : il[a]? = some (pc, .ifCond .lt o, 3, v)) (hg : jm_tg pc o = tgt) (hn : pc + 3 = nxt) (k1 : x < 0 → jt_T mi (tgt, L, st, h) Q) (k2 : ¬ x < 0 → jt_T mi (nxt, L, st, h) Q) : jt_T mi (pc, L, .inl x :: st, h) Q := by
  subst hg; subst hn
  exact jt_ifA hm hq (jm_br_lt k1 k2)
theorem jt_iclt (hm : jm_Me mi own il ret fr lo mx) (a : Nat) (hq : il[a]? = some (pc, .if_icmp .lt o, 3, v)) (hg : jm_tg pc o = tgt) (hn : pc + 3 = nxt) (k1 : x < y → jt_T mi (tgt, L, st, h) Q) (k2 : ¬ x < y → jt_T mi (nxt, L, st, h) Q) : jt_T mi (pc, L, .inl y :: .inl x :: st, h) Q := by
  subst hg; subst hn
  exact jt_icmpA hm hq (jm_br_lt k1 k2)
theorem jt_ifge (hm : jm_Me mi own il ret fr lo mx) (a : Nat) (hq : il[a]? = some (pc, .ifCond .ge o, 3, v)) (hg : jm_tg pc o = tgt) (hn : pc + 3 = nxt) (k1 : ¬ x < 0 → jt_T mi (tgt, L, st, h) Q) (k2 : x < 0 → jt_T mi (nxt, L, st, h) Q) : jt_T mi (pc, L, .inl x :: st, h) Q := by
  subst hg; subst hn
  exact jt_ifA hm hq (jm_br_ge k1 k2)
theorem jt_icge (hm : jm_Me mi own il ret fr lo mx) (a : Nat) (hq : il[a]? = some (pc, .if_icmp .ge o, 3, v)) (hg : jm_tg pc o = tgt) (hn : pc + 3 = nxt) (k1 : ¬ x < y → jt_T mi (tgt, L, st, h) Q) (k2 : x < y → jt_T mi (nxt, L, st, h) Q) : jt_T mi (pc, L, .inl y :: .inl x :: st, h) Q := by
  subst hg; subst hn
  exact jt_icmpA hm hq (jm_br_ge k1 k2)
theorem jt_ifgt (hm : jm_Me mi own il ret fr lo mx) (a : Nat) (hq : il[a]? = some (pc, .ifCond .gt o, 3, v)) (hg : jm_tg pc o = tgt) (hn : pc + 3 = nxt) (k1 : 0 < x → jt_T mi (tgt, L, st, h) Q) (k2 : ¬ 0 < x → jt_T mi (nxt, L, st, h) Q) : jt_T mi (pc, L, .inl x :: st, h) Q := by
  subst hg; subst hn
  exact jt_ifA hm hq (jm_br_gt k1 k2)
theorem jt_icgt (hm : jm_Me mi own il ret fr lo mx) (a : Nat) (hq : il[a]? = some (pc, .if_icmp .gt o, 3, v)) (hg : jm_tg pc o = tgt) (hn : pc + 3 = nxt) (k1 : y < x → jt_T mi (tgt, L, st, h) Q) (k2 : ¬ y < x → jt_T mi (nxt, L, st, h) Q) : jt_T mi (pc, L, .inl y :: .inl x :: st, h) Q := by
  subst hg; subst hn
  exact jt_icmpA hm hq (jm_br_gt k1 k2)
theorem jt_ifle (hm : jm_Me mi own il ret fr lo mx) (a : Nat) (hq : il[a]? = some (pc, .ifCond .le o, 3, v)) (hg : jm_tg pc o = tgt) (hn : pc + 3 = nxt) (k1 : ¬ 0 < x → jt_T mi (tgt, L, st, h) Q) (k2 : 0 < x → jt_T mi (nxt, L, st, h) Q) : jt_T mi (pc, L, .inl x :: st, h) Q := by
  subst hg; subst hn
  exact jt_ifA hm hq (jm_br_le k1 k2)
theorem jt_icle (hm : jm_Me mi own il ret fr lo mx) (a : Nat) (hq : il[a]? = some (pc, .if_icmp .le o, 3, v)) (hg : jm_tg pc o = tgt) (hn : pc + 3 = nxt) (k1 : ¬ y < x → jt_T mi (tgt, L, st, h) Q) (k2 : y < x → jt_T mi (nxt, L, st, h) Q) : jt_T mi (pc, L, .inl y :: .inl x :: st, h) Q := by
  subst hg; subst hn
  exact jt_icmpA hm hq (jm_br_le k1 k2)
theorem jt_ifeq (hm : jm_Me mi own il ret fr lo mx) (a : Nat) (hq : il[a]? = some (pc, .ifCond .eq o, 3, v)) (hg : jm_tg pc o = tgt) (hn : pc + 3 = nxt) (k1 : x = 0 → jt_T mi (tgt, L, st, h) Q) (k2 : ¬ x = 0 → jt_T mi (nxt, L, st, h) Q) : jt_T mi (pc, L, .inl x :: st, h) Q := by
  subst hg; subst hn
  exact jt_ifA hm hq (jm_br_eq k1 k2)
theorem jt_iceq (hm : jm_Me mi own il ret fr lo mx) (a : Nat) (hq : il[a]? = some (pc, .if_icmp .eq o, 3, v)) (hg : jm_tg pc o = tgt) (hn : pc + 3 = nxt) (k1 : x = y → jt_T mi (tgt, L, st, h) Q) (k2 : ¬ x = y → jt_T mi (nxt, L, st, h) Q) : jt_T mi (pc, L, .inl y :: .inl x :: st, h) Q := by
  subst hg; subst hn
  exact jt_icmpA hm hq (jm_br_eq k1 k2)
theorem jt_ifne (hm : jm_Me mi own il ret fr lo mx) (a : Nat) (hq : il[a]? = some (pc, .ifCond .ne o, 3, v)) (hg : jm_tg pc o = tgt) (hn : pc + 3 = nxt) (k1 : ¬ x = 0 → jt_T mi (tgt, L, st, h) Q) (k2 : x = 0 → jt_T mi (nxt, L, st, h) Q) : jt_T mi (pc, L, .inl x :: st, h) Q := by
  subst hg; subst hn
  exact jt_ifA hm hq (jm_br_ne k1 k2)
theorem jt_icne (hm : jm_Me mi own il ret fr lo mx) (a : Nat) (hq : il[a]? = some (pc, .if_icmp .ne o, 3, v)) (hg : jm_tg pc o = tgt) (hn : pc + 3 = nxt) (k1 : ¬ x = y → jt_T mi (tgt, L, st, h) Q) (k2 : x = y → jt_T mi (nxt, L, st, h) Q) : jt_T mi (pc, L, .inl y :: .inl x :: st, h) Q := by
  subst hg; subst hn
  exact jt_icmpA hm hq (jm_br_ne k1 k2)
/-- a truth as an int -/
def jm_b (P : Prop) [Decidable P] : Int32 := if P then 1 else 0
theorem jm_b_pos {P : Prop} [Decidable P] (h : P) : jm_b P = 1 := if_pos h
theorem jm_b_neg {P : Prop} [Decidable P] (h : ¬ P) : jm_b P = 0 := if_neg h
theorem jm_b_01 (P : Prop) [Decidable P] : jm_b P = 0 ∨ jm_b P = 1 := by
  unfold jm_b; split
  · exact Or.inr rfl
  · exact Or.inl rfl
theorem jm_b_congr {P P' : Prop} [Decidable P] [Decidable P'] (h : P ↔ P') : jm_b P = jm_b P' := by
  by_cases q : P
  · rw [jm_b_pos q, jm_b_pos (h.mp q)]
  · rw [jm_b_neg q, jm_b_neg (fun z => q (h.mpr z))]
theorem jm_b_eq1 {P : Prop} [Decidable P] : jm_b P = 1 ↔ P := by
  unfold jm_b; split
  · rename_i q; exact ⟨fun _ => q, fun _ => rfl⟩
  · rename_i q; exact ⟨fun z => absurd z (by decide), fun z => absurd z q⟩
theorem jm_b_eq0 {P : Prop} [Decidable P] : jm_b P = 0 ↔ ¬ P := by
  unfold jm_b; split
  · rename_i q; exact ⟨fun z => absurd z (by decide), fun z => absurd q z⟩
  · rename_i q; exact ⟨fun _ => q, fun _ => rfl⟩
theorem jt_ifbeq (hm : jm_Me mi own il ret fr lo mx) (a : Nat) {P : Prop} [Decidable P] (hq : il[a]? = some (pc, .ifCond .eq o, 3, v)) (hg : jm_tg pc o = tgt) (hn : pc + 3 = nxt) (k1 : ¬ P → jt_T mi (tgt, L, st, h) Q) (k2 : P → jt_T mi (nxt, L, st, h) Q) : jt_T mi (pc, L, .inl (jm_b P) :: st, h) Q := by
  subst hg; subst hn
  exact jt_ifA hm hq (jm_br_eq (fun z => k1 (jm_b_eq0.mp z)) (fun z => k2 (Decidable.of_not_not (fun w => z (jm_b_eq0.mpr w)))))
theorem jt_ifbne (hm : jm_Me mi own il ret fr lo mx) (a : Nat) {P : Prop} [Decidable P] (hq : il[a]? = some (pc, .ifCond .ne o, 3, v)) (hg : jm_tg pc o = tgt) (hn : pc + 3 = nxt) (k1 : P → jt_T mi (tgt, L, st, h) Q) (k2 : ¬ P → jt_T mi (nxt, L, st, h) Q) : jt_T mi (pc, L, .inl (jm_b P) :: st, h) Q := by
  subst hg; subst hn
  exact jt_ifA hm hq (jm_br_ne (fun z => k1 (Decidable.of_not_not (fun w => z (jm_b_eq0.mpr w)))) (fun z => k2 (jm_b_eq0.mp z)))
def jm_tsG (pc : Nat) (d : Int) (x : Int32) (G : Nat → Prop) : Int → List Int → Prop
  | _, [] => G (jm_tg pc d)
  | k, o :: t => (x = Int32.ofInt k → G (jm_tg pc o)) ∧ (¬ x = Int32.ofInt k → jm_tsG pc d x G (k + 1) t)
def jm_lsG (pc : Nat) (d : Int) (x : Int32) (G : Nat → Prop) : List (Int × Int) → Prop
  | [] => G (jm_tg pc d)
  | q :: t => (x = Int32.ofInt q.1 → G (jm_tg pc q.2)) ∧ (¬ x = Int32.ofInt q.1 → jm_lsG pc d x G t)
theorem jm_tsG_of {pc : Nat} {d : Int} {x : Int32} {G : Nat → Prop} : ∀ (l : List Int) (k : Int), jm_tsG pc d x G k l → G (jm_ts pc d x k l) := by
  intro l
  induction l with
  | nil => intro k h; exact h
  | cons o t ih =>
    intro k h
    unfold jm_ts
    split
    · exact h.1 ‹_›
    · exact ih _ (h.2 ‹_›)
theorem jm_lsG_of {pc : Nat} {d : Int} {x : Int32} {G : Nat → Prop} : ∀ (l : List (Int × Int)), jm_lsG pc d x G l → G (jm_ls pc d x l) := by
  intro l
  induction l with
  | nil => intro h; exact h
  | cons q t ih =>
    intro h
    unfold jm_ls
    split
    · exact h.1 ‹_›
    · exact ih (h.2 ‹_›)
theorem jt_ts (hm : jm_Me mi own il ret fr lo mx) (a : Nat) {d l1 l2 : Int} {os : Array Int} {len : Nat} (hq : il[a]? = some (pc, .tableswitch d l1 l2 os, len, v)) (k : jm_tsG pc d x (fun t => jt_T mi (t, L, st, h) Q) l1 os.toList) : jt_T mi (pc, L, .inl x :: st, h) Q :=
  jt_step1 hm hq (c := none) rfl trivial (jm_tsG_of _ _ k)
theorem jt_ls (hm : jm_Me mi own il ret fr lo mx) (a : Nat) {d : Int} {ps : Array (Int × Int)} {len : Nat} (hq : il[a]? = some (pc, .lookupswitch d ps, len, v)) (k : jm_lsG pc d x (fun t => jt_T mi (t, L, st, h) Q) ps.toList) : jt_T mi (pc, L, .inl x :: st, h) Q :=
  jt_step1 hm hq (c := none) rfl trivial (jm_lsG_of _ k)
def jm_fits (fr lo fr' lo' mx' : Nat) (as rest : List jm_V) : Bool := Nat.ble (fr' + 1) fr && Nat.ble (8 + (mx' + 11) + lo') lo && Nat.ble (jm_wsum rest) 8 && Nat.ble (jm_wsum as) mx'
theorem jt_call (hm : jm_Me mi own il ret fr lo mx) (a : Nat) {i : Instr} {len : Nat} (hq : il[a]? = some (pc, i, len, v)) {mi' : Nat} {as rest : List jm_V} (hc : jm_call own i st = some (mi', as, rest))
    {own' fr' lo' mx' : Nat} {il' : List jm_IT} {ret' : Option FieldType} (hm' : jm_Me mi' own' il' ret' fr' lo' mx') (hfit : jm_fits fr lo fr' lo' mx' as rest = true) (hn : pc + 3 = nxt) (hT : jt_T mi' (0, jm_args 0 as, [], h) Q')
    (k : ∀ (u : Option jm_V) (h' : jm_M), Q' u h' → jt_T mi (nxt, L, u.toList ++ rest, h') Q) : jt_T mi (pc, L, st, h) Q := by
  obtain ⟨n1, u, h', hR1, hq1⟩ := hT
  obtain ⟨n2, u2, m, hR2, hq2⟩ := k u h' hq1
  subst hn
  have hlk := jm_Me_lk hm hq
  obtain ⟨hil, r, hr, rfl, -, rfl, rfl, -⟩ := hm
  obtain ⟨-, r', hr', -, -, rfl, rfl, rfl⟩ := hm'
  unfold jm_fits at hfit
  simp only [Bool.and_eq_true, Nat.ble_eq] at hfit
  refine ⟨max n1 n2 + 1, u2, m, Or.inr ⟨r, il, i, len, v, hr, hil, hlk, Or.inr (Or.inl ⟨mi', r', as, rest, u, h', hc, hr', ?_, jm_Rn_le (Nat.le_max_left _ _) hR1, jm_Rn_le (Nat.le_max_right _ _) hR2⟩)⟩, hq2⟩
  unfold jm_fit
  simp only [Bool.and_eq_true, decide_eq_true_eq]
  exact hfit
/-- a call that answers w and leaves the memory as it is -/
def jt_Pu (mi : Nat) (as : List jm_V) (h : jm_M) (w : jm_V) : Prop := jt_T mi (0, jm_args 0 as, [], h) (fun u h' => u = some w ∧ h' = h)
theorem jt_callp (hm : jm_Me mi own il ret fr lo mx) (a : Nat) {i : Instr} {len : Nat} (hq : il[a]? = some (pc, i, len, v)) {mi' : Nat} {as rest : List jm_V} {w : jm_V} (hc : jm_call own i st = some (mi', as, rest))
    {own' fr' lo' mx' : Nat} {il' : List jm_IT} {ret' : Option FieldType} (hm' : jm_Me mi' own' il' ret' fr' lo' mx') (hfit : jm_fits fr lo fr' lo' mx' as rest = true) (hn : pc + 3 = nxt) (hT : jt_Pu mi' as h w)
    (k : jt_T mi (nxt, L, w :: rest, h) Q) : jt_T mi (pc, L, st, h) Q := jt_call hm a hq hc hm' hfit hn hT (fun u h' e => by obtain ⟨rfl, rfl⟩ := e; exact k)
theorem jt_retA (hm : jm_Me mi own il ret fr lo mx) {a len : Nat} {i : Instr} (hq : il[a]? = some (pc, i, len, v)) {c : Prop} {u : Option jm_V} (hr : jm_ret ret i st = some (c, u)) (hc : c) (hQ : Q u h) : jt_T mi (pc, L, st, h) Q := by
  have hlk := jm_Me_lk hm hq
  obtain ⟨hil, r, hr', -, rfl, -⟩ := hm
  exact ⟨1, u, h, Or.inr ⟨r, il, i, len, v, hr', hil, hlk, Or.inr (Or.inr ⟨c, u, hr, hc, rfl⟩)⟩, hQ⟩
theorem jt_iret (hm : jm_Me mi own il (some .int) fr lo mx) (a : Nat) {len : Nat} (hq : il[a]? = some (pc, .ireturn, len, v)) (hQ : Q (some (.inl x)) h) : jt_T mi (pc, L, [.inl x], h) Q := jt_retA hm hq (c := True) rfl trivial hQ
theorem jt_zret (hm : jm_Me mi own il (some .boolean) fr lo mx) (a : Nat) {len : Nat} (hq : il[a]? = some (pc, .ireturn, len, v)) (hc : x = 0 ∨ x = 1) (hQ : Q (some (.inl x)) h) : jt_T mi (pc, L, [.inl x], h) Q := jt_retA hm hq (c := x = 0 ∨ x = 1) rfl hc hQ
theorem jt_vret (hm : jm_Me mi own il none fr lo mx) (a : Nat) {len : Nat} (hq : il[a]? = some (pc, .return_, len, v)) (hQ : Q none h) : jt_T mi (pc, L, [], h) Q := jt_retA hm hq (c := True) rfl trivial hQ
theorem jt_lret {z : Int64} (hm : jm_Me mi own il (some .long) fr lo mx) (a : Nat) {len : Nat} (hq : il[a]? = some (pc, .lreturn, len, v)) (hQ : Q (some (.inr (.inl z))) h) : jt_T mi (pc, L, [.inr (.inl z)], h) Q := jt_retA hm hq (c := True) rfl trivial hQ
end JMT
end
section
/-! THE SMALL MACHINE: the rows of its methods; numbers. -/
abbrev jm_n (n : Nat) : jm_V := .inl (nI n)
theorem jm_m0 : jm_Me 0 0 jm_i0 (some .int) 2 50 3 := ⟨rfl, _, rfl, rfl, rfl, rfl, rfl, rfl⟩
theorem jm_m1 : jm_Me 1 0 jm_i1 (some .int) 0 0 3 := ⟨rfl, _, rfl, rfl, rfl, rfl, rfl, rfl⟩
theorem jm_m2 : jm_Me 2 0 jm_i2 (some .int) 0 0 1 := ⟨rfl, _, rfl, rfl, rfl, rfl, rfl, rfl⟩
theorem jm_m3 : jm_Me 3 0 jm_i3 (some .boolean) 0 0 2 := ⟨rfl, _, rfl, rfl, rfl, rfl, rfl, rfl⟩
theorem jm_m4 : jm_Me 4 0 jm_i4 (some .int) 0 0 2 := ⟨rfl, _, rfl, rfl, rfl, rfl, rfl, rfl⟩
theorem jm_m5 : jm_Me 5 0 jm_i5 (some .int) 0 0 2 := ⟨rfl, _, rfl, rfl, rfl, rfl, rfl, rfl⟩
theorem jm_m6 : jm_Me 6 1 jm_i6 none 1 26 2 := ⟨rfl, _, rfl, rfl, rfl, rfl, rfl, rfl⟩
theorem jm_m7 : jm_Me 7 1 jm_i7 (some .boolean) 0 0 2 := ⟨rfl, _, rfl, rfl, rfl, rfl, rfl, rfl⟩
theorem jm_m8 : jm_Me 8 1 jm_i8 (some .boolean) 0 0 2 := ⟨rfl, _, rfl, rfl, rfl, rfl, rfl, rfl⟩
theorem jm_m9 : jm_Me 9 1 jm_i9 (some .boolean) 1 21 2 := ⟨rfl, _, rfl, rfl, rfl, rfl, rfl, rfl⟩
theorem jm_m10 : jm_Me 10 1 jm_i10 (some .boolean) 0 0 2 := ⟨rfl, _, rfl, rfl, rfl, rfl, rfl, rfl⟩
theorem jm_m11 : jm_Me 11 1 jm_i11 (some .boolean) 0 0 2 := ⟨rfl, _, rfl, rfl, rfl, rfl, rfl, rfl⟩
theorem jm_m12 : jm_Me 12 1 jm_i12 (some .boolean) 0 0 2 := ⟨rfl, _, rfl, rfl, rfl, rfl, rfl, rfl⟩
theorem jm_m13 : jm_Me 13 1 jm_i13 (some .boolean) 0 0 4 := ⟨rfl, _, rfl, rfl, rfl, rfl, rfl, rfl⟩
theorem jm_m14 : jm_Me 14 1 jm_i14 (some .boolean) 0 0 2 := ⟨rfl, _, rfl, rfl, rfl, rfl, rfl, rfl⟩
theorem jm_m15 : jm_Me 15 1 jm_i15 none 0 0 3 := ⟨rfl, _, rfl, rfl, rfl, rfl, rfl, rfl⟩
theorem jm_m16 : jm_Me 16 1 jm_i16 none 1 26 3 := ⟨rfl, _, rfl, rfl, rfl, rfl, rfl, rfl⟩
theorem jm_m17 : jm_Me 17 1 jm_i17 none 6 141 3 := ⟨rfl, _, rfl, rfl, rfl, rfl, rfl, rfl⟩
theorem jm_m18 : jm_Me 18 1 jm_i18 none 5 119 3 := ⟨rfl, _, rfl, rfl, rfl, rfl, rfl, rfl⟩
theorem jm_m19 : jm_Me 19 1 jm_i19 none 2 47 2 := ⟨rfl, _, rfl, rfl, rfl, rfl, rfl, rfl⟩
theorem jm_m20 : jm_Me 20 1 jm_i20 none 4 94 6 := ⟨rfl, _, rfl, rfl, rfl, rfl, rfl, rfl⟩
theorem jm_m21 : jm_Me 21 1 jm_i21 none 1 26 2 := ⟨rfl, _, rfl, rfl, rfl, rfl, rfl, rfl⟩
theorem jm_m22 : jm_Me 22 1 jm_i22 none 2 42 4 := ⟨rfl, _, rfl, rfl, rfl, rfl, rfl, rfl⟩
theorem jm_m23 : jm_Me 23 1 jm_i23 none 0 0 1 := ⟨rfl, _, rfl, rfl, rfl, rfl, rfl, rfl⟩
theorem jm_m24 : jm_Me 24 1 jm_i24 (some .int) 3 73 2 := ⟨rfl, _, rfl, rfl, rfl, rfl, rfl, rfl⟩
theorem jm_m25 : jm_Me 25 1 jm_i25 (some .int) 3 66 3 := ⟨rfl, _, rfl, rfl, rfl, rfl, rfl, rfl⟩
theorem jm_m26 : jm_Me 26 1 jm_i26 (some .boolean) 1 21 2 := ⟨rfl, _, rfl, rfl, rfl, rfl, rfl, rfl⟩
theorem jm_m27 : jm_Me 27 1 jm_i27 (some .int) 2 42 3 := ⟨rfl, _, rfl, rfl, rfl, rfl, rfl, rfl⟩
theorem jm_m28 : jm_Me 28 1 jm_i28 (some .int) 0 0 4 := ⟨rfl, _, rfl, rfl, rfl, rfl, rfl, rfl⟩
theorem jm_m29 : jm_Me 29 1 jm_i29 (some .int) 0 0 3 := ⟨rfl, _, rfl, rfl, rfl, rfl, rfl, rfl⟩
theorem jm_m30 : jm_Me 30 1 jm_i30 (some .int) 1 20 3 := ⟨rfl, _, rfl, rfl, rfl, rfl, rfl, rfl⟩
theorem jm_m31 : jm_Me 31 1 jm_i31 (some .int) 0 0 3 := ⟨rfl, _, rfl, rfl, rfl, rfl, rfl, rfl⟩
theorem jm_m32 : jm_Me 32 1 jm_i32 (some .int) 1 26 5 := ⟨rfl, _, rfl, rfl, rfl, rfl, rfl, rfl⟩
theorem jm_m33 : jm_Me 33 1 jm_i33 (some .int) 1 26 6 := ⟨rfl, _, rfl, rfl, rfl, rfl, rfl, rfl⟩
theorem jm_m34 : jm_Me 34 2 jm_i34 (some .int) 0 0 3 := ⟨rfl, _, rfl, rfl, rfl, rfl, rfl, rfl⟩
theorem jm_m35 : jm_Me 35 2 jm_i35 (some .int) 0 0 3 := ⟨rfl, _, rfl, rfl, rfl, rfl, rfl, rfl⟩
theorem jm_m36 : jm_Me 36 2 jm_i36 (some .int) 2 42 2 := ⟨rfl, _, rfl, rfl, rfl, rfl, rfl, rfl⟩
theorem jm_m37 : jm_Me 37 3 jm_i37 (some .int) 2 50 3 := ⟨rfl, _, rfl, rfl, rfl, rfl, rfl, rfl⟩
theorem jm_m38 : jm_Me 38 3 jm_i38 (some .int) 1 21 2 := ⟨rfl, _, rfl, rfl, rfl, rfl, rfl, rfl⟩
theorem jm_m39 : jm_Me 39 4 jm_i39 (some .int) 0 0 3 := ⟨rfl, _, rfl, rfl, rfl, rfl, rfl, rfl⟩
theorem jm_m40 : jm_Me 40 4 jm_i40 (some .int) 0 0 2 := ⟨rfl, _, rfl, rfl, rfl, rfl, rfl, rfl⟩
theorem jm_m41 : jm_Me 41 5 jm_i41 none 0 0 1 := ⟨rfl, _, rfl, rfl, rfl, rfl, rfl, rfl⟩
theorem jm_m42 : jm_Me 42 5 jm_i42 none 0 0 3 := ⟨rfl, _, rfl, rfl, rfl, rfl, rfl, rfl⟩
theorem jm_m43 : jm_Me 43 5 jm_i43 none 1 23 3 := ⟨rfl, _, rfl, rfl, rfl, rfl, rfl, rfl⟩
theorem jm_m44 : jm_Me 44 5 jm_i44 (some .boolean) 0 0 2 := ⟨rfl, _, rfl, rfl, rfl, rfl, rfl, rfl⟩
theorem jm_m45 : jm_Me 45 5 jm_i45 (some .boolean) 0 0 3 := ⟨rfl, _, rfl, rfl, rfl, rfl, rfl, rfl⟩
theorem jm_m46 : jm_Me 46 5 jm_i46 (some .int) 1 21 2 := ⟨rfl, _, rfl, rfl, rfl, rfl, rfl, rfl⟩
theorem jm_m47 : jm_Me 47 5 jm_i47 none 1 21 3 := ⟨rfl, _, rfl, rfl, rfl, rfl, rfl, rfl⟩
theorem jm_m48 : jm_Me 48 5 jm_i48 (some .boolean) 2 42 2 := ⟨rfl, _, rfl, rfl, rfl, rfl, rfl, rfl⟩
theorem jm_m49 : jm_Me 49 6 jm_i49 (some .int) 2 50 4 := ⟨rfl, _, rfl, rfl, rfl, rfl, rfl, rfl⟩
theorem jm_m50 : jm_Me 50 6 jm_i50 (some .int) 0 0 1 := ⟨rfl, _, rfl, rfl, rfl, rfl, rfl, rfl⟩
theorem jm_m51 : jm_Me 51 6 jm_i51 (some .boolean) 0 0 2 := ⟨rfl, _, rfl, rfl, rfl, rfl, rfl, rfl⟩
theorem jm_m52 : jm_Me 52 6 jm_i52 (some .int) 2 42 2 := ⟨rfl, _, rfl, rfl, rfl, rfl, rfl, rfl⟩
theorem jm_m53 : jm_Me 53 7 jm_i53 (some .int) 2 44 3 := ⟨rfl, _, rfl, rfl, rfl, rfl, rfl, rfl⟩
theorem jm_m54 : jm_Me 54 7 jm_i54 (some .int) 1 21 2 := ⟨rfl, _, rfl, rfl, rfl, rfl, rfl, rfl⟩
theorem jm_m55 : jm_Me 55 7 jm_i55 (some .int) 2 42 2 := ⟨rfl, _, rfl, rfl, rfl, rfl, rfl, rfl⟩
theorem jm_m56 : jm_Me 56 8 jm_i56 (some .int) 0 0 1 := ⟨rfl, _, rfl, rfl, rfl, rfl, rfl, rfl⟩
theorem jm_m57 : jm_Me 57 8 jm_i57 (some .int) 1 20 1 := ⟨rfl, _, rfl, rfl, rfl, rfl, rfl, rfl⟩
theorem jm_m58 : jm_Me 58 8 jm_i58 (some .int) 2 42 4 := ⟨rfl, _, rfl, rfl, rfl, rfl, rfl, rfl⟩
theorem jm_m59 : jm_Me 59 8 jm_i59 (some .boolean) 8 186 3 := ⟨rfl, _, rfl, rfl, rfl, rfl, rfl, rfl⟩
theorem jm_m60 : jm_Me 60 8 jm_i60 (some .boolean) 3 66 6 := ⟨rfl, _, rfl, rfl, rfl, rfl, rfl, rfl⟩
theorem jm_m61 : jm_Me 61 8 jm_i61 (some .boolean) 3 66 4 := ⟨rfl, _, rfl, rfl, rfl, rfl, rfl, rfl⟩
theorem jm_m62 : jm_Me 62 8 jm_i62 (some .boolean) 3 66 4 := ⟨rfl, _, rfl, rfl, rfl, rfl, rfl, rfl⟩
theorem jm_m63 : jm_Me 63 8 jm_i63 (some .boolean) 3 66 5 := ⟨rfl, _, rfl, rfl, rfl, rfl, rfl, rfl⟩
theorem jm_m64 : jm_Me 64 8 jm_i64 (some .boolean) 7 163 4 := ⟨rfl, _, rfl, rfl, rfl, rfl, rfl, rfl⟩
theorem jm_m65 : jm_Me 65 8 jm_i65 (some .int) 2 42 5 := ⟨rfl, _, rfl, rfl, rfl, rfl, rfl, rfl⟩
theorem jm_m66 : jm_Me 66 9 jm_i66 (some .int) 2 51 3 := ⟨rfl, _, rfl, rfl, rfl, rfl, rfl, rfl⟩
theorem jm_m67 : jm_Me 67 9 jm_i67 (some .int) 1 22 3 := ⟨rfl, _, rfl, rfl, rfl, rfl, rfl, rfl⟩
theorem jm_m68 : jm_Me 68 9 jm_i68 (some .int) 0 0 2 := ⟨rfl, _, rfl, rfl, rfl, rfl, rfl, rfl⟩
theorem jm_m69 : jm_Me 69 9 jm_i69 (some .int) 1 21 2 := ⟨rfl, _, rfl, rfl, rfl, rfl, rfl, rfl⟩
theorem jm_m70 : jm_Me 70 10 jm_i70 (some .int) 0 0 3 := ⟨rfl, _, rfl, rfl, rfl, rfl, rfl, rfl⟩
theorem jm_m71 : jm_Me 71 10 jm_i71 (some .int) 0 0 1 := ⟨rfl, _, rfl, rfl, rfl, rfl, rfl, rfl⟩
theorem jm_m72 : jm_Me 72 10 jm_i72 (some .int) 1 21 2 := ⟨rfl, _, rfl, rfl, rfl, rfl, rfl, rfl⟩
theorem jm_m73 : jm_Me 73 11 jm_i73 (some .int) 10 231 5 := ⟨rfl, _, rfl, rfl, rfl, rfl, rfl, rfl⟩
theorem jm_m74 : jm_Me 74 11 jm_i74 (some .int) 9 208 4 := ⟨rfl, _, rfl, rfl, rfl, rfl, rfl, rfl⟩
theorem jm_m75 : jm_Me 75 11 jm_i75 (some .int) 4 94 3 := ⟨rfl, _, rfl, rfl, rfl, rfl, rfl, rfl⟩
theorem jm_m76 : jm_Me 76 11 jm_i76 (some .int) 1 21 3 := ⟨rfl, _, rfl, rfl, rfl, rfl, rfl, rfl⟩
theorem jm_m77 : jm_Me 77 11 jm_i77 (some .int) 2 42 3 := ⟨rfl, _, rfl, rfl, rfl, rfl, rfl, rfl⟩
theorem jm_m78 : jm_Me 78 11 jm_i78 (some .int) 4 85 4 := ⟨rfl, _, rfl, rfl, rfl, rfl, rfl, rfl⟩
theorem jm_m79 : jm_Me 79 11 jm_i79 (some .int) 2 42 2 := ⟨rfl, _, rfl, rfl, rfl, rfl, rfl, rfl⟩
theorem jm_m80 : jm_Me 80 11 jm_i80 (some .int) 2 42 4 := ⟨rfl, _, rfl, rfl, rfl, rfl, rfl, rfl⟩
theorem jm_m81 : jm_Me 81 11 jm_i81 (some .int) 2 42 6 := ⟨rfl, _, rfl, rfl, rfl, rfl, rfl, rfl⟩
theorem jm_m82 : jm_Me 82 11 jm_i82 (some .int) 2 42 4 := ⟨rfl, _, rfl, rfl, rfl, rfl, rfl, rfl⟩
theorem jm_m83 : jm_Me 83 11 jm_i83 (some .int) 7 163 2 := ⟨rfl, _, rfl, rfl, rfl, rfl, rfl, rfl⟩
theorem jm_m84 : jm_Me 84 11 jm_i84 (some .int) 8 184 4 := ⟨rfl, _, rfl, rfl, rfl, rfl, rfl, rfl⟩
theorem jm_m85 : jm_Me 85 11 jm_i85 (some .int) 8 184 3 := ⟨rfl, _, rfl, rfl, rfl, rfl, rfl, rfl⟩
theorem jm_m86 : jm_Me 86 11 jm_i86 (some .int) 6 141 3 := ⟨rfl, _, rfl, rfl, rfl, rfl, rfl, rfl⟩
theorem jm_m87 : jm_Me 87 11 jm_i87 (some .int) 6 141 5 := ⟨rfl, _, rfl, rfl, rfl, rfl, rfl, rfl⟩
theorem jm_m88 : jm_Me 88 11 jm_i88 (some .int) 7 163 2 := ⟨rfl, _, rfl, rfl, rfl, rfl, rfl, rfl⟩
theorem jm_m89 : jm_Me 89 11 jm_i89 (some .int) 6 141 3 := ⟨rfl, _, rfl, rfl, rfl, rfl, rfl, rfl⟩
theorem jm_m90 : jm_Me 90 11 jm_i90 (some .int) 6 141 3 := ⟨rfl, _, rfl, rfl, rfl, rfl, rfl, rfl⟩
theorem jm_m91 : jm_Me 91 11 jm_i91 (some .int) 8 185 7 := ⟨rfl, _, rfl, rfl, rfl, rfl, rfl, rfl⟩
theorem jm_m92 : jm_Me 92 11 jm_i92 (some .int) 7 163 3 := ⟨rfl, _, rfl, rfl, rfl, rfl, rfl, rfl⟩
theorem jm_m93 : jm_Me 93 11 jm_i93 (some .int) 2 47 3 := ⟨rfl, _, rfl, rfl, rfl, rfl, rfl, rfl⟩
theorem jm_m94 : jm_Me 94 11 jm_i94 (some .int) 7 164 9 := ⟨rfl, _, rfl, rfl, rfl, rfl, rfl, rfl⟩
theorem jm_m95 : jm_Me 95 11 jm_i95 (some .int) 6 141 4 := ⟨rfl, _, rfl, rfl, rfl, rfl, rfl, rfl⟩
theorem jm_m96 : jm_Me 96 11 jm_i96 (some .int) 6 141 6 := ⟨rfl, _, rfl, rfl, rfl, rfl, rfl, rfl⟩
theorem jm_m97 : jm_Me 97 11 jm_i97 (some .int) 9 207 3 := ⟨rfl, _, rfl, rfl, rfl, rfl, rfl, rfl⟩
theorem jm_m98 : jm_Me 98 11 jm_i98 (some .boolean) 8 185 3 := ⟨rfl, _, rfl, rfl, rfl, rfl, rfl, rfl⟩
theorem jm_m99 : jm_Me 99 11 jm_i99 (some .int) 6 141 4 := ⟨rfl, _, rfl, rfl, rfl, rfl, rfl, rfl⟩
theorem jm_m100 : jm_Me 100 11 jm_i100 (some .int) 6 141 4 := ⟨rfl, _, rfl, rfl, rfl, rfl, rfl, rfl⟩
theorem jm_m101 : jm_Me 101 11 jm_i101 (some .int) 8 184 6 := ⟨rfl, _, rfl, rfl, rfl, rfl, rfl, rfl⟩
theorem jm_m102 : jm_Me 102 11 jm_i102 (some .int) 8 184 6 := ⟨rfl, _, rfl, rfl, rfl, rfl, rfl, rfl⟩
theorem jm_m103 : jm_Me 103 11 jm_i103 (some .int) 7 164 5 := ⟨rfl, _, rfl, rfl, rfl, rfl, rfl, rfl⟩
theorem jm_m104 : jm_Me 104 11 jm_i104 none 6 141 4 := ⟨rfl, _, rfl, rfl, rfl, rfl, rfl, rfl⟩
theorem jm_m105 : jm_Me 105 11 jm_i105 (some .int) 2 40 6 := ⟨rfl, _, rfl, rfl, rfl, rfl, rfl, rfl⟩
theorem jm_m106 : jm_Me 106 11 jm_i106 (some .int) 1 20 1 := ⟨rfl, _, rfl, rfl, rfl, rfl, rfl, rfl⟩
theorem jm_m107 : jm_Me 107 11 jm_i107 (some .int) 7 164 8 := ⟨rfl, _, rfl, rfl, rfl, rfl, rfl, rfl⟩
theorem jm_m108 : jm_Me 108 11 jm_i108 none 0 0 4 := ⟨rfl, _, rfl, rfl, rfl, rfl, rfl, rfl⟩
theorem jm_m109 : jm_Me 109 11 jm_i109 (some .boolean) 6 141 4 := ⟨rfl, _, rfl, rfl, rfl, rfl, rfl, rfl⟩
theorem jm_m110 : jm_Me 110 11 jm_i110 (some .int) 8 186 7 := ⟨rfl, _, rfl, rfl, rfl, rfl, rfl, rfl⟩
theorem jm_m111 : jm_Me 111 11 jm_i111 (some .int) 7 163 4 := ⟨rfl, _, rfl, rfl, rfl, rfl, rfl, rfl⟩
theorem jm_m112 : jm_Me 112 11 jm_i112 (some .long) 7 164 9 := ⟨rfl, _, rfl, rfl, rfl, rfl, rfl, rfl⟩
theorem jm_m113 : jm_Me 113 11 jm_i113 none 6 141 4 := ⟨rfl, _, rfl, rfl, rfl, rfl, rfl, rfl⟩
theorem jm_m114 : jm_Me 114 11 jm_i114 (some .long) 0 0 5 := ⟨rfl, _, rfl, rfl, rfl, rfl, rfl, rfl⟩
theorem jm_m115 : jm_Me 115 11 jm_i115 (some .long) 2 58 4 := ⟨rfl, _, rfl, rfl, rfl, rfl, rfl, rfl⟩
theorem jm_m116 : jm_Me 116 11 jm_i116 (some .long) 1 30 9 := ⟨rfl, _, rfl, rfl, rfl, rfl, rfl, rfl⟩
theorem jm_m117 : jm_Me 117 11 jm_i117 (some .long) 0 0 11 := ⟨rfl, _, rfl, rfl, rfl, rfl, rfl, rfl⟩
theorem jm_m118 : jm_Me 118 11 jm_i118 (some .int) 5 112 6 := ⟨rfl, _, rfl, rfl, rfl, rfl, rfl, rfl⟩
theorem jm_m119 : jm_Me 119 11 jm_i119 (some .boolean) 4 88 5 := ⟨rfl, _, rfl, rfl, rfl, rfl, rfl, rfl⟩
theorem jm_m120 : jm_Me 120 11 jm_i120 (some .int) 6 141 5 := ⟨rfl, _, rfl, rfl, rfl, rfl, rfl, rfl⟩
theorem jm_m121 : jm_Me 121 11 jm_i121 (some .int) 7 163 9 := ⟨rfl, _, rfl, rfl, rfl, rfl, rfl, rfl⟩
theorem jm_m122 : jm_Me 122 11 jm_i122 (some .int) 0 0 1 := ⟨rfl, _, rfl, rfl, rfl, rfl, rfl, rfl⟩
theorem jm_m123 : jm_Me 123 11 jm_i123 (some .int) 0 0 1 := ⟨rfl, _, rfl, rfl, rfl, rfl, rfl, rfl⟩
theorem jm_m124 : jm_Me 124 11 jm_i124 (some .int) 2 47 1 := ⟨rfl, _, rfl, rfl, rfl, rfl, rfl, rfl⟩
theorem jm_m125 : jm_Me 125 11 jm_i125 (some .int) 2 47 1 := ⟨rfl, _, rfl, rfl, rfl, rfl, rfl, rfl⟩
theorem jm_m126 : jm_Me 126 11 jm_i126 (some .int) 3 64 2 := ⟨rfl, _, rfl, rfl, rfl, rfl, rfl, rfl⟩
theorem jm_m127 : jm_Me 127 11 jm_i127 (some .int) 2 42 5 := ⟨rfl, _, rfl, rfl, rfl, rfl, rfl, rfl⟩
theorem jm_m128 : jm_Me 128 11 jm_i128 (some .int) 2 45 4 := ⟨rfl, _, rfl, rfl, rfl, rfl, rfl, rfl⟩
theorem jm_m129 : jm_Me 129 11 jm_i129 (some .int) 4 85 5 := ⟨rfl, _, rfl, rfl, rfl, rfl, rfl, rfl⟩
theorem jm_m130 : jm_Me 130 11 jm_i130 (some .int) 2 42 8 := ⟨rfl, _, rfl, rfl, rfl, rfl, rfl, rfl⟩
theorem jm_m131 : jm_Me 131 11 jm_i131 (some .int) 4 85 3 := ⟨rfl, _, rfl, rfl, rfl, rfl, rfl, rfl⟩
theorem jm_m132 : jm_Me 132 11 jm_i132 none 7 163 2 := ⟨rfl, _, rfl, rfl, rfl, rfl, rfl, rfl⟩
theorem jm_m133 : jm_Me 133 11 jm_i133 (some .int) 3 64 2 := ⟨rfl, _, rfl, rfl, rfl, rfl, rfl, rfl⟩
theorem jm_m134 : jm_Me 134 11 jm_i134 (some .int) 3 64 2 := ⟨rfl, _, rfl, rfl, rfl, rfl, rfl, rfl⟩
theorem jm_m135 : jm_Me 135 11 jm_i135 (some .int) 2 42 3 := ⟨rfl, _, rfl, rfl, rfl, rfl, rfl, rfl⟩
theorem jm_m136 : jm_Me 136 11 jm_i136 (some .boolean) 0 0 3 := ⟨rfl, _, rfl, rfl, rfl, rfl, rfl, rfl⟩
theorem jm_m137 : jm_Me 137 11 jm_i137 (some .boolean) 1 22 1 := ⟨rfl, _, rfl, rfl, rfl, rfl, rfl, rfl⟩
theorem jm_m138 : jm_Me 138 11 jm_i138 (some .boolean) 1 22 1 := ⟨rfl, _, rfl, rfl, rfl, rfl, rfl, rfl⟩
theorem jm_m139 : jm_Me 139 11 jm_i139 (some .boolean) 1 22 1 := ⟨rfl, _, rfl, rfl, rfl, rfl, rfl, rfl⟩
theorem jm_m140 : jm_Me 140 11 jm_i140 (some .boolean) 1 22 1 := ⟨rfl, _, rfl, rfl, rfl, rfl, rfl, rfl⟩
theorem jm_m141 : jm_Me 141 11 jm_i141 (some .boolean) 1 22 1 := ⟨rfl, _, rfl, rfl, rfl, rfl, rfl, rfl⟩
theorem jm_m142 : jm_Me 142 11 jm_i142 (some .int) 0 0 1 := ⟨rfl, _, rfl, rfl, rfl, rfl, rfl, rfl⟩
theorem jm_m143 : jm_Me 143 12 jm_i143 (some .boolean) 0 0 3 := ⟨rfl, _, rfl, rfl, rfl, rfl, rfl, rfl⟩
theorem jm_m144 : jm_Me 144 12 jm_i144 (some .int) 0 0 2 := ⟨rfl, _, rfl, rfl, rfl, rfl, rfl, rfl⟩
theorem jm_m145 : jm_Me 145 12 jm_i145 (some .int) 0 0 2 := ⟨rfl, _, rfl, rfl, rfl, rfl, rfl, rfl⟩
theorem jm_m146 : jm_Me 146 12 jm_i146 none 0 0 3 := ⟨rfl, _, rfl, rfl, rfl, rfl, rfl, rfl⟩
theorem jm_m147 : jm_Me 147 12 jm_i147 (some .int) 0 0 2 := ⟨rfl, _, rfl, rfl, rfl, rfl, rfl, rfl⟩
theorem jm_m148 : jm_Me 148 12 jm_i148 (some .int) 0 0 2 := ⟨rfl, _, rfl, rfl, rfl, rfl, rfl, rfl⟩
theorem jm_m149 : jm_Me 149 12 jm_i149 (some .boolean) 1 22 2 := ⟨rfl, _, rfl, rfl, rfl, rfl, rfl, rfl⟩
theorem jm_m150 : jm_Me 150 12 jm_i150 (some .boolean) 1 22 2 := ⟨rfl, _, rfl, rfl, rfl, rfl, rfl, rfl⟩
theorem jm_m151 : jm_Me 151 12 jm_i151 (some .boolean) 1 22 1 := ⟨rfl, _, rfl, rfl, rfl, rfl, rfl, rfl⟩
theorem jm_m152 : jm_Me 152 12 jm_i152 (some .boolean) 0 0 2 := ⟨rfl, _, rfl, rfl, rfl, rfl, rfl, rfl⟩
theorem jm_m153 : jm_Me 153 12 jm_i153 (some .int) 0 0 3 := ⟨rfl, _, rfl, rfl, rfl, rfl, rfl, rfl⟩
theorem jm_m154 : jm_Me 154 12 jm_i154 (some .int) 0 0 1 := ⟨rfl, _, rfl, rfl, rfl, rfl, rfl, rfl⟩
theorem jm_m155 : jm_Me 155 12 jm_i155 (some .int) 1 21 7 := ⟨rfl, _, rfl, rfl, rfl, rfl, rfl, rfl⟩
theorem jm_m156 : jm_Me 156 12 jm_i156 (some .int) 1 21 5 := ⟨rfl, _, rfl, rfl, rfl, rfl, rfl, rfl⟩
theorem jm_m157 : jm_Me 157 12 jm_i157 (some .int) 2 47 4 := ⟨rfl, _, rfl, rfl, rfl, rfl, rfl, rfl⟩
theorem jm_m158 : jm_Me 158 12 jm_i158 (some .int) 1 21 4 := ⟨rfl, _, rfl, rfl, rfl, rfl, rfl, rfl⟩
theorem jm_m159 : jm_Me 159 12 jm_i159 (some .int) 0 0 1 := ⟨rfl, _, rfl, rfl, rfl, rfl, rfl, rfl⟩
theorem jm_m160 : jm_Me 160 12 jm_i160 (some .boolean) 1 21 2 := ⟨rfl, _, rfl, rfl, rfl, rfl, rfl, rfl⟩
theorem jm_m161 : jm_Me 161 12 jm_i161 none 2 42 4 := ⟨rfl, _, rfl, rfl, rfl, rfl, rfl, rfl⟩
theorem jm_m162 : jm_Me 162 12 jm_i162 (some .boolean) 3 70 8 := ⟨rfl, _, rfl, rfl, rfl, rfl, rfl, rfl⟩
theorem jm_m163 : jm_Me 163 12 jm_i163 (some .int) 4 97 4 := ⟨rfl, _, rfl, rfl, rfl, rfl, rfl, rfl⟩
theorem jm_m164 : jm_Me 164 12 jm_i164 none 5 120 4 := ⟨rfl, _, rfl, rfl, rfl, rfl, rfl, rfl⟩
theorem jm_m165 : jm_Me 165 12 jm_i165 (some .int) 1 21 3 := ⟨rfl, _, rfl, rfl, rfl, rfl, rfl, rfl⟩
theorem jm_m166 : jm_Me 166 12 jm_i166 none 1 21 3 := ⟨rfl, _, rfl, rfl, rfl, rfl, rfl, rfl⟩
theorem jm_m167 : jm_Me 167 12 jm_i167 (some .boolean) 0 0 2 := ⟨rfl, _, rfl, rfl, rfl, rfl, rfl, rfl⟩
theorem jm_m168 : jm_Me 168 12 jm_i168 (some .int) 0 0 1 := ⟨rfl, _, rfl, rfl, rfl, rfl, rfl, rfl⟩
theorem jm_m169 : jm_Me 169 12 jm_i169 (some .boolean) 1 22 4 := ⟨rfl, _, rfl, rfl, rfl, rfl, rfl, rfl⟩
theorem jm_m170 : jm_Me 170 12 jm_i170 (some .boolean) 2 45 3 := ⟨rfl, _, rfl, rfl, rfl, rfl, rfl, rfl⟩
theorem jm_m171 : jm_Me 171 12 jm_i171 none 1 21 5 := ⟨rfl, _, rfl, rfl, rfl, rfl, rfl, rfl⟩
theorem jm_m172 : jm_Me 172 12 jm_i172 none 1 21 2 := ⟨rfl, _, rfl, rfl, rfl, rfl, rfl, rfl⟩
theorem jm_m173 : jm_Me 173 12 jm_i173 (some .boolean) 6 143 4 := ⟨rfl, _, rfl, rfl, rfl, rfl, rfl, rfl⟩
theorem jm_m174 : jm_Me 174 12 jm_i174 (some .int) 7 166 8 := ⟨rfl, _, rfl, rfl, rfl, rfl, rfl, rfl⟩
theorem jm_m175 : jm_Me 175 12 jm_i175 (some .int) 3 70 3 := ⟨rfl, _, rfl, rfl, rfl, rfl, rfl, rfl⟩
theorem jm_m176 : jm_Me 176 12 jm_i176 (some .int) 2 43 3 := ⟨rfl, _, rfl, rfl, rfl, rfl, rfl, rfl⟩
theorem jm_m177 : jm_Me 177 12 jm_i177 (some .int) 1 21 4 := ⟨rfl, _, rfl, rfl, rfl, rfl, rfl, rfl⟩
theorem jm_m178 : jm_Me 178 12 jm_i178 (some .int) 2 44 3 := ⟨rfl, _, rfl, rfl, rfl, rfl, rfl, rfl⟩
theorem jm_m179 : jm_Me 179 12 jm_i179 (some .int) 3 63 4 := ⟨rfl, _, rfl, rfl, rfl, rfl, rfl, rfl⟩
theorem jm_m180 : jm_Me 180 12 jm_i180 (some .int) 2 42 2 := ⟨rfl, _, rfl, rfl, rfl, rfl, rfl, rfl⟩
theorem jm_m181 : jm_Me 181 12 jm_i181 (some .int) 2 43 4 := ⟨rfl, _, rfl, rfl, rfl, rfl, rfl, rfl⟩
theorem jm_m182 : jm_Me 182 12 jm_i182 (some .int) 2 42 6 := ⟨rfl, _, rfl, rfl, rfl, rfl, rfl, rfl⟩
theorem jm_m183 : jm_Me 183 12 jm_i183 (some .int) 2 43 4 := ⟨rfl, _, rfl, rfl, rfl, rfl, rfl, rfl⟩
theorem jm_m184 : jm_Me 184 12 jm_i184 (some .int) 6 143 2 := ⟨rfl, _, rfl, rfl, rfl, rfl, rfl, rfl⟩
theorem jm_m185 : jm_Me 185 12 jm_i185 none 6 143 2 := ⟨rfl, _, rfl, rfl, rfl, rfl, rfl, rfl⟩
theorem jm_m186 : jm_Me 186 12 jm_i186 (some .int) 7 164 4 := ⟨rfl, _, rfl, rfl, rfl, rfl, rfl, rfl⟩
theorem jm_m187 : jm_Me 187 12 jm_i187 (some .int) 0 0 3 := ⟨rfl, _, rfl, rfl, rfl, rfl, rfl, rfl⟩
theorem jm_m188 : jm_Me 188 12 jm_i188 (some .int) 7 164 3 := ⟨rfl, _, rfl, rfl, rfl, rfl, rfl, rfl⟩
theorem jm_m189 : jm_Me 189 12 jm_i189 (some .int) 5 120 3 := ⟨rfl, _, rfl, rfl, rfl, rfl, rfl, rfl⟩
theorem jm_m190 : jm_Me 190 12 jm_i190 (some .int) 5 120 5 := ⟨rfl, _, rfl, rfl, rfl, rfl, rfl, rfl⟩
theorem jm_m191 : jm_Me 191 12 jm_i191 (some .int) 5 120 4 := ⟨rfl, _, rfl, rfl, rfl, rfl, rfl, rfl⟩
theorem jm_m192 : jm_Me 192 12 jm_i192 (some .int) 6 143 2 := ⟨rfl, _, rfl, rfl, rfl, rfl, rfl, rfl⟩
theorem jm_m193 : jm_Me 193 12 jm_i193 (some .int) 7 164 2 := ⟨rfl, _, rfl, rfl, rfl, rfl, rfl, rfl⟩
theorem jm_m194 : jm_Me 194 12 jm_i194 (some .int) 7 164 5 := ⟨rfl, _, rfl, rfl, rfl, rfl, rfl, rfl⟩
theorem jm_m195 : jm_Me 195 12 jm_i195 (some .int) 6 143 7 := ⟨rfl, _, rfl, rfl, rfl, rfl, rfl, rfl⟩
theorem jm_m196 : jm_Me 196 12 jm_i196 (some .int) 7 169 3 := ⟨rfl, _, rfl, rfl, rfl, rfl, rfl, rfl⟩
theorem jm_m197 : jm_Me 197 12 jm_i197 (some .int) 5 120 4 := ⟨rfl, _, rfl, rfl, rfl, rfl, rfl, rfl⟩
theorem jm_m198 : jm_Me 198 12 jm_i198 none 1 21 3 := ⟨rfl, _, rfl, rfl, rfl, rfl, rfl, rfl⟩
theorem jm_m199 : jm_Me 199 12 jm_i199 (some .int) 5 120 5 := ⟨rfl, _, rfl, rfl, rfl, rfl, rfl, rfl⟩
theorem jm_m200 : jm_Me 200 12 jm_i200 (some .int) 6 144 9 := ⟨rfl, _, rfl, rfl, rfl, rfl, rfl, rfl⟩
theorem jm_m201 : jm_Me 201 12 jm_i201 (some .int) 5 120 7 := ⟨rfl, _, rfl, rfl, rfl, rfl, rfl, rfl⟩
theorem jm_m202 : jm_Me 202 12 jm_i202 (some .int) 7 169 3 := ⟨rfl, _, rfl, rfl, rfl, rfl, rfl, rfl⟩
theorem jm_m203 : jm_Me 203 12 jm_i203 (some .int) 5 120 5 := ⟨rfl, _, rfl, rfl, rfl, rfl, rfl, rfl⟩
theorem jm_m204 : jm_Me 204 12 jm_i204 (some .int) 5 120 5 := ⟨rfl, _, rfl, rfl, rfl, rfl, rfl, rfl⟩
theorem jm_m205 : jm_Me 205 12 jm_i205 (some .int) 7 164 5 := ⟨rfl, _, rfl, rfl, rfl, rfl, rfl, rfl⟩
theorem jm_m206 : jm_Me 206 12 jm_i206 (some .int) 7 164 6 := ⟨rfl, _, rfl, rfl, rfl, rfl, rfl, rfl⟩
theorem jm_m207 : jm_Me 207 12 jm_i207 (some .int) 5 120 6 := ⟨rfl, _, rfl, rfl, rfl, rfl, rfl, rfl⟩
theorem jm_m208 : jm_Me 208 12 jm_i208 (some .int) 1 21 3 := ⟨rfl, _, rfl, rfl, rfl, rfl, rfl, rfl⟩
theorem jm_m209 : jm_Me 209 12 jm_i209 (some .int) 2 43 4 := ⟨rfl, _, rfl, rfl, rfl, rfl, rfl, rfl⟩
theorem jm_m210 : jm_Me 210 12 jm_i210 (some .int) 0 0 1 := ⟨rfl, _, rfl, rfl, rfl, rfl, rfl, rfl⟩
theorem jm_m211 : jm_Me 211 12 jm_i211 (some .int) 5 120 11 := ⟨rfl, _, rfl, rfl, rfl, rfl, rfl, rfl⟩
theorem jm_m212 : jm_Me 212 12 jm_i212 (some .int) 1 21 5 := ⟨rfl, _, rfl, rfl, rfl, rfl, rfl, rfl⟩
theorem jm_m213 : jm_Me 213 12 jm_i213 (some .int) 6 143 5 := ⟨rfl, _, rfl, rfl, rfl, rfl, rfl, rfl⟩
theorem jm_m214 : jm_Me 214 12 jm_i214 (some .int) 7 167 5 := ⟨rfl, _, rfl, rfl, rfl, rfl, rfl, rfl⟩
theorem jm_m215 : jm_Me 215 12 jm_i215 (some .long) 0 0 10 := ⟨rfl, _, rfl, rfl, rfl, rfl, rfl, rfl⟩
theorem jm_m216 : jm_Me 216 12 jm_i216 (some .long) 1 29 5 := ⟨rfl, _, rfl, rfl, rfl, rfl, rfl, rfl⟩
theorem jm_m217 : jm_Me 217 12 jm_i217 (some .long) 5 120 15 := ⟨rfl, _, rfl, rfl, rfl, rfl, rfl, rfl⟩
theorem jm_m218 : jm_Me 218 12 jm_i218 (some .long) 2 53 5 := ⟨rfl, _, rfl, rfl, rfl, rfl, rfl, rfl⟩
theorem jm_m219 : jm_Me 219 12 jm_i219 (some .int) 3 64 6 := ⟨rfl, _, rfl, rfl, rfl, rfl, rfl, rfl⟩
theorem jm_m220 : jm_Me 220 12 jm_i220 (some .int) 5 120 6 := ⟨rfl, _, rfl, rfl, rfl, rfl, rfl, rfl⟩
theorem jm_m221 : jm_Me 221 12 jm_i221 (some .int) 0 0 2 := ⟨rfl, _, rfl, rfl, rfl, rfl, rfl, rfl⟩
theorem jm_m222 : jm_Me 222 12 jm_i222 (some .int) 6 143 7 := ⟨rfl, _, rfl, rfl, rfl, rfl, rfl, rfl⟩
theorem jm_m223 : jm_Me 223 12 jm_i223 (some .int) 1 22 1 := ⟨rfl, _, rfl, rfl, rfl, rfl, rfl, rfl⟩
theorem jm_m224 : jm_Me 224 12 jm_i224 (some .int) 1 22 1 := ⟨rfl, _, rfl, rfl, rfl, rfl, rfl, rfl⟩
theorem jm_m225 : jm_Me 225 12 jm_i225 (some .int) 2 43 4 := ⟨rfl, _, rfl, rfl, rfl, rfl, rfl, rfl⟩
theorem jm_m226 : jm_Me 226 12 jm_i226 (some .int) 0 0 1 := ⟨rfl, _, rfl, rfl, rfl, rfl, rfl, rfl⟩
theorem jm_m227 : jm_Me 227 12 jm_i227 (some .boolean) 1 22 1 := ⟨rfl, _, rfl, rfl, rfl, rfl, rfl, rfl⟩
theorem jm_m228 : jm_Me 228 12 jm_i228 (some .int) 2 42 3 := ⟨rfl, _, rfl, rfl, rfl, rfl, rfl, rfl⟩
theorem jm_m229 : jm_Me 229 12 jm_i229 (some .int) 2 42 2 := ⟨rfl, _, rfl, rfl, rfl, rfl, rfl, rfl⟩
theorem jm_m230 : jm_Me 230 12 jm_i230 (some .int) 2 42 5 := ⟨rfl, _, rfl, rfl, rfl, rfl, rfl, rfl⟩
theorem jm_m231 : jm_Me 231 12 jm_i231 (some .int) 2 42 5 := ⟨rfl, _, rfl, rfl, rfl, rfl, rfl, rfl⟩
theorem jm_m232 : jm_Me 232 12 jm_i232 (some .int) 3 64 5 := ⟨rfl, _, rfl, rfl, rfl, rfl, rfl, rfl⟩
theorem jm_m233 : jm_Me 233 12 jm_i233 (some .long) 2 42 3 := ⟨rfl, _, rfl, rfl, rfl, rfl, rfl, rfl⟩
theorem jm_m234 : jm_Me 234 12 jm_i234 (some .int) 2 42 8 := ⟨rfl, _, rfl, rfl, rfl, rfl, rfl, rfl⟩
theorem jm_m235 : jm_Me 235 12 jm_i235 (some .int) 0 0 2 := ⟨rfl, _, rfl, rfl, rfl, rfl, rfl, rfl⟩
theorem jm_m236 : jm_Me 236 12 jm_i236 (some .int) 3 63 3 := ⟨rfl, _, rfl, rfl, rfl, rfl, rfl, rfl⟩
theorem jm_m237 : jm_Me 237 12 jm_i237 (some .int) 3 63 5 := ⟨rfl, _, rfl, rfl, rfl, rfl, rfl, rfl⟩
theorem jm_m238 : jm_Me 238 13 jm_i238 (some .int) 0 0 1 := ⟨rfl, _, rfl, rfl, rfl, rfl, rfl, rfl⟩
theorem jm_m239 : jm_Me 239 14 jm_i239 none 0 0 4 := ⟨rfl, _, rfl, rfl, rfl, rfl, rfl, rfl⟩
theorem nI_mul (a b : Nat) : nI a * nI b = nI (a * b) := (Int32.ofNat_mul a b).symm
theorem nI_subN {a b : Nat} (h : b ≤ a) : nI a - nI b = nI (a - b) := by
  have : nI a = nI (a - b) + nI b := by rw [nI_add, Nat.sub_add_cancel h]
  rw [this, Int32.add_sub_cancel]
theorem nI_inj {a b : Nat} (ha : a < 2 ^ 31) (hb : b < 2 ^ 31) (h : nI a = nI b) : a = b := (nI_eq ha hb).mp h
theorem nI_neg {a : Nat} (ha : a < 2 ^ 31) : ¬ nI a < 0 := nI_pos ha
/-- an int within least 0 and a number -/
theorem nI_win {x : Int32} {k : Nat} (hk : k < 2 ^ 31) (h0 : 0 ≤ x) (h1 : x ≤ nI k) : ∃ j : Nat, j ≤ k ∧ x = nI j := nI_of2 (nI_toInt hk) (Int32.not_lt.mpr h0) h1
section JMT
variable {mi own fr lo mx pc nxt tgt : Nat} {il : List jm_IT} {ret : Option FieldType} {Q Q' : Option jm_V → jm_M → Prop} {L L' : jm_L} {st : List jm_V} {h : jm_M} {v : Int32} {x y : Int32} {o : Int}
theorem jt_ti (e : x = y) (k : jt_T mi (pc, L, .inl y :: st, h) Q) : jt_T mi (pc, L, .inl x :: st, h) Q := by rw [e]; exact k
theorem jt_tl {a b : Int64} (e : a = b) (k : jt_T mi (pc, L, .inr (.inl b) :: st, h) Q) : jt_T mi (pc, L, .inr (.inl a) :: st, h) Q := by rw [e]; exact k
theorem jt_tr {a b : jm_K} (e : a = b) (k : jt_T mi (pc, L, .inr (.inr b) :: st, h) Q) : jt_T mi (pc, L, .inr (.inr a) :: st, h) Q := by rw [e]; exact k
theorem jt_tn (k : ∀ z : Int32, z = x → jt_T mi (pc, L, .inl z :: st, h) Q) : jt_T mi (pc, L, .inl x :: st, h) Q := k x rfl
theorem jt_eL (e : L = L') (k : jt_T mi (pc, L', st, h) Q) : jt_T mi (pc, L, st, h) Q := by rw [e]; exact k
theorem jt_eM {h' : jm_M} (e : h = h') (k : jt_T mi (pc, L, st, h') Q) : jt_T mi (pc, L, st, h) Q := by rw [e]; exact k
theorem jt_niclt (hm : jm_Me mi own il ret fr lo mx) (i : Nat) {a b : Nat} (ha : a < 2 ^ 31) (hb : b < 2 ^ 31) (hq : il[i]? = some (pc, .if_icmp .lt o, 3, v)) (hg : jm_tg pc o = tgt) (hn : pc + 3 = nxt) (k1 : a < b → jt_T mi (tgt, L, st, h) Q) (k2 : b ≤ a → jt_T mi (nxt, L, st, h) Q) : jt_T mi (pc, L, .inl (nI b) :: .inl (nI a) :: st, h) Q :=
  jt_iclt hm i hq hg hn (fun z => k1 ((nI_ltI ha hb).mp z)) (fun z => k2 (Nat.not_lt.mp (fun w => z ((nI_ltI ha hb).mpr w))))
theorem jt_nicge (hm : jm_Me mi own il ret fr lo mx) (i : Nat) {a b : Nat} (ha : a < 2 ^ 31) (hb : b < 2 ^ 31) (hq : il[i]? = some (pc, .if_icmp .ge o, 3, v)) (hg : jm_tg pc o = tgt) (hn : pc + 3 = nxt) (k1 : b ≤ a → jt_T mi (tgt, L, st, h) Q) (k2 : a < b → jt_T mi (nxt, L, st, h) Q) : jt_T mi (pc, L, .inl (nI b) :: .inl (nI a) :: st, h) Q :=
  jt_icge hm i hq hg hn (fun z => k1 (Nat.not_lt.mp (fun w => z ((nI_ltI ha hb).mpr w)))) (fun z => k2 ((nI_ltI ha hb).mp z))
theorem jt_nicgt (hm : jm_Me mi own il ret fr lo mx) (i : Nat) {a b : Nat} (ha : a < 2 ^ 31) (hb : b < 2 ^ 31) (hq : il[i]? = some (pc, .if_icmp .gt o, 3, v)) (hg : jm_tg pc o = tgt) (hn : pc + 3 = nxt) (k1 : b < a → jt_T mi (tgt, L, st, h) Q) (k2 : a ≤ b → jt_T mi (nxt, L, st, h) Q) : jt_T mi (pc, L, .inl (nI b) :: .inl (nI a) :: st, h) Q :=
  jt_icgt hm i hq hg hn (fun z => k1 ((nI_ltI hb ha).mp z)) (fun z => k2 (Nat.not_lt.mp (fun w => z ((nI_ltI hb ha).mpr w))))
theorem jt_nicle (hm : jm_Me mi own il ret fr lo mx) (i : Nat) {a b : Nat} (ha : a < 2 ^ 31) (hb : b < 2 ^ 31) (hq : il[i]? = some (pc, .if_icmp .le o, 3, v)) (hg : jm_tg pc o = tgt) (hn : pc + 3 = nxt) (k1 : a ≤ b → jt_T mi (tgt, L, st, h) Q) (k2 : b < a → jt_T mi (nxt, L, st, h) Q) : jt_T mi (pc, L, .inl (nI b) :: .inl (nI a) :: st, h) Q :=
  jt_icle hm i hq hg hn (fun z => k1 (Nat.not_lt.mp (fun w => z ((nI_ltI hb ha).mpr w)))) (fun z => k2 ((nI_ltI hb ha).mp z))
theorem jt_niceq (hm : jm_Me mi own il ret fr lo mx) (i : Nat) {a b : Nat} (ha : a < 2 ^ 31) (hb : b < 2 ^ 31) (hq : il[i]? = some (pc, .if_icmp .eq o, 3, v)) (hg : jm_tg pc o = tgt) (hn : pc + 3 = nxt) (k1 : a = b → jt_T mi (tgt, L, st, h) Q) (k2 : ¬ a = b → jt_T mi (nxt, L, st, h) Q) : jt_T mi (pc, L, .inl (nI b) :: .inl (nI a) :: st, h) Q :=
  jt_iceq hm i hq hg hn (fun z => k1 ((nI_eq ha hb).mp z)) (fun z => k2 (fun w => z ((nI_eq ha hb).mpr w)))
theorem jt_nicne (hm : jm_Me mi own il ret fr lo mx) (i : Nat) {a b : Nat} (ha : a < 2 ^ 31) (hb : b < 2 ^ 31) (hq : il[i]? = some (pc, .if_icmp .ne o, 3, v)) (hg : jm_tg pc o = tgt) (hn : pc + 3 = nxt) (k1 : ¬ a = b → jt_T mi (tgt, L, st, h) Q) (k2 : a = b → jt_T mi (nxt, L, st, h) Q) : jt_T mi (pc, L, .inl (nI b) :: .inl (nI a) :: st, h) Q :=
  jt_icne hm i hq hg hn (fun z => k1 (fun w => z ((nI_eq ha hb).mpr w))) (fun z => k2 ((nI_eq ha hb).mp z))
theorem jt_nifeq (hm : jm_Me mi own il ret fr lo mx) (i : Nat) {a : Nat} (ha : a < 2 ^ 31) (hq : il[i]? = some (pc, .ifCond .eq o, 3, v)) (hg : jm_tg pc o = tgt) (hn : pc + 3 = nxt) (k1 : a = 0 → jt_T mi (tgt, L, st, h) Q) (k2 : ¬ a = 0 → jt_T mi (nxt, L, st, h) Q) : jt_T mi (pc, L, .inl (nI a) :: st, h) Q :=
  jt_ifeq hm i hq hg hn (fun z => k1 ((nI_eq ha (by decide)).mp z)) (fun z => k2 (fun w => z ((nI_eq ha (by decide)).mpr w)))
theorem jt_nifne (hm : jm_Me mi own il ret fr lo mx) (i : Nat) {a : Nat} (ha : a < 2 ^ 31) (hq : il[i]? = some (pc, .ifCond .ne o, 3, v)) (hg : jm_tg pc o = tgt) (hn : pc + 3 = nxt) (k1 : ¬ a = 0 → jt_T mi (tgt, L, st, h) Q) (k2 : a = 0 → jt_T mi (nxt, L, st, h) Q) : jt_T mi (pc, L, .inl (nI a) :: st, h) Q :=
  jt_ifne hm i hq hg hn (fun z => k1 (fun w => z ((nI_eq ha (by decide)).mpr w))) (fun z => k2 ((nI_eq ha (by decide)).mp z))
theorem jt_nifgt (hm : jm_Me mi own il ret fr lo mx) (i : Nat) {a : Nat} (ha : a < 2 ^ 31) (hq : il[i]? = some (pc, .ifCond .gt o, 3, v)) (hg : jm_tg pc o = tgt) (hn : pc + 3 = nxt) (k1 : 0 < a → jt_T mi (tgt, L, st, h) Q) (k2 : a = 0 → jt_T mi (nxt, L, st, h) Q) : jt_T mi (pc, L, .inl (nI a) :: st, h) Q :=
  jt_ifgt hm i hq hg hn (fun z => k1 ((nI_ltI (a := 0) (by decide) ha).mp z)) (fun z => k2 (Nat.le_zero.mp (Nat.not_lt.mp (fun w => z ((nI_ltI (a := 0) (by decide) ha).mpr w)))))
theorem jt_nifle (hm : jm_Me mi own il ret fr lo mx) (i : Nat) {a : Nat} (ha : a < 2 ^ 31) (hq : il[i]? = some (pc, .ifCond .le o, 3, v)) (hg : jm_tg pc o = tgt) (hn : pc + 3 = nxt) (k1 : a = 0 → jt_T mi (tgt, L, st, h) Q) (k2 : 0 < a → jt_T mi (nxt, L, st, h) Q) : jt_T mi (pc, L, .inl (nI a) :: st, h) Q :=
  jt_ifle hm i hq hg hn (fun z => k1 (Nat.le_zero.mp (Nat.not_lt.mp (fun w => z ((nI_ltI (a := 0) (by decide) ha).mpr w))))) (fun z => k2 ((nI_ltI (a := 0) (by decide) ha).mp z))
theorem jt_nifge (hm : jm_Me mi own il ret fr lo mx) (i : Nat) {a : Nat} (ha : a < 2 ^ 31) (hq : il[i]? = some (pc, .ifCond .ge o, 3, v)) (hg : jm_tg pc o = tgt) (hn : pc + 3 = nxt) (k1 : True → jt_T mi (tgt, L, st, h) Q)  : jt_T mi (pc, L, .inl (nI a) :: st, h) Q :=
  jt_ifge hm i hq hg hn (fun _ => k1 trivial) (fun z => absurd z (nI_neg ha))
theorem jt_niflt (hm : jm_Me mi own il ret fr lo mx) (i : Nat) {a : Nat} (ha : a < 2 ^ 31) (hq : il[i]? = some (pc, .ifCond .lt o, 3, v)) (hg : jm_tg pc o = tgt) (hn : pc + 3 = nxt)  (k2 : True → jt_T mi (nxt, L, st, h) Q) : jt_T mi (pc, L, .inl (nI a) :: st, h) Q :=
  jt_iflt hm i hq hg hn (fun z => absurd z (nI_neg ha)) (fun _ => k2 trivial)
end JMT
end
section
/-! WHAT THERE IS, in numbers: g: cats, men, hour, day, fish (4 ..), mice (20 ..), cats (36 .. : kind, figure, at, hair, name), men (66 .. : side, passed); how it stands in class and reference. -/
section JMT
variable {mi own fr lo mx pc nxt tgt : Nat} {il : List jm_IT} {ret : Option FieldType} {Q Q' : Option jm_V → jm_M → Prop} {L L' : jm_L} {st : List jm_V} {h : jm_M} {v : Int32} {x y : Int32} {o : Int}
theorem jt_inc (hm : jm_Me mi own il ret fr lo mx) (a : Nat) {k c len : Nat} {kk : Int} (hq : il[a]? = some (pc, .iinc k kk, len, 1)) (hl : L.lookup k = some (.inl (nI c))) (hL : jm_put1 k (.inl (nI (c + 1))) L = L') (hn : pc + len = nxt) (k : jt_T mi (nxt, L', st, h) Q) : jt_T mi (pc, L, st, h) Q := by
  subst hn
  subst hL
  refine jt_step1 hm hq (c := none) (f' := (pc + len, jm_put1 _ (.inl (nI (c + 1))) L, st, h)) ?_ trivial k
  unfold jm_step
  dsimp only
  rw [hl, ← nI_1]
end JMT
theorem jt_k8 {n : Nat} (h : n < 8) : n = 0 ∨ n = 1 ∨ n = 2 ∨ n = 3 ∨ n = 4 ∨ n = 5 ∨ n = 6 ∨ n = 7 := by omega
theorem jm_set_eq (h : jm_M) (c : jm_K) (f : Nat → Int32) : jm_set h c f c = f := if_pos rfl
theorem jm_set_ne {h : jm_M} {c k : jm_K} {f : Nat → Int32} (e : k ≠ c) : jm_set h c f k = h k := if_neg e
theorem jx_eq (f : Nat → Int32) (k : Nat) (x : Int32) : upd f k x k = x := if_pos rfl
theorem jx_ne {f : Nat → Int32} {j k : Nat} {x : Int32} (e : j ≠ k) : upd f k x j = f j := if_neg e
def sp_up (g : Nat → Nat) (k v : Nat) : Nat → Nat := fun i => if i = k then v else g i
theorem sp_up_eq {g : Nat → Nat} {k v i : Nat} (e : i = k) : sp_up g k v i = v := if_pos e
theorem sp_up_ne {g : Nat → Nat} {k v i : Nat} (e : i ≠ k) : sp_up g k v i = g i := if_neg e
theorem sp_up_self {g : Nat → Nat} {k v : Nat} (e : v = g k) : sp_up g k v = g := by
  funext i
  unfold sp_up
  split
  · rename_i q; rw [q, e]
  · rfl
/-- the men that have passed, as bits -/
def sp_pb (g : Nat → Nat) : Nat := g 67 + 2 * g 69 + 4 * g 71 + 8 * g 73 + 16 * g 75 + 32 * g 77
theorem sp_pb_up {g : Nat → Nat} {k v : Nat} (h : k < 67 ∨ k % 2 = 0) : sp_pb (sp_up g k v) = sp_pb g := by
  unfold sp_pb
  rw [sp_up_ne (by omega), sp_up_ne (by omega), sp_up_ne (by omega), sp_up_ne (by omega), sp_up_ne (by omega), sp_up_ne (by omega)]
/-- in the class: the frontier j -/
def jf_rel (h : jm_M) (j : Nat) (g : Nat → Nat) : Prop :=
  h (2, j, 0) 9 = nI (g 0) ∧ h (2, j, 0) 10 = nI (g 1) ∧ h (2, j, 0) 11 = nI (g 2) ∧ h (2, j, 0) 12 = nI (g 3) ∧ h (2, j, 0) 13 = nI (sp_pb g) ∧
  (∀ p, p < 16 → h (6, j, 0) p = nI (g (4 + p))) ∧ (∀ p, p < 16 → h (6, j, 1) p = nI (g (20 + p))) ∧
  (∀ c, c < 6 → h (2, j, 1) c = nI (g (36 + 5 * c))) ∧ (∀ c, c < 6 → h (2, j, 2) c = nI (g (37 + 5 * c))) ∧ (∀ c, c < 6 → h (2, j, 3) c = nI (g (38 + 5 * c))) ∧
  (∀ c, c < 6 → h (2, j, 4) c = nI (g (39 + 5 * c))) ∧ (∀ c, c < 6 → h (2, j, 5) c = nI (g (40 + 5 * c))) ∧ (∀ c, c < 6 → h (2, j, 6) c = nI (g (66 + 2 * c)))
/-- in the reference: the row a -/
def jg_rel (h : jm_M) (a : Nat) (g : Nat → Nat) : Prop := ∀ i, i < 78 → h (5, a, 0) i = nI (g i)
/-- all but the frontier j is as it was; all but the reference's row a -/
def jf_fr (j : Nat) (h h' : jm_M) : Prop := ∀ k : jm_K, ¬ ((k.1 = 2 ∨ k.1 = 6) ∧ k.2.1 = j) → h' k = h k
def jg_fr (a : Nat) (h h' : jm_M) : Prop := ∀ k : jm_K, k ≠ (5, a, 0) → h' k = h k
theorem jf_fr_rf {j : Nat} {h : jm_M} : jf_fr j h h := fun _ _ => rfl
theorem jf_fr_tr {j : Nat} {h h' h2 : jm_M} (a : jf_fr j h h') (b : jf_fr j h' h2) : jf_fr j h h2 := fun k hk => (b k hk).trans (a k hk)
theorem jf_fr_set {j : Nat} {h h' : jm_M} (a : jf_fr j h h') {k : jm_K} {f : Nat → Int32} (hk : (k.1 = 2 ∨ k.1 = 6) ∧ k.2.1 = j) : jf_fr j h (jm_set h' k f) := fun k2 h2 => (jm_set_ne (fun e => h2 (by rw [e]; exact hk))).trans (a k2 h2)
theorem jg_fr_rf {j : Nat} {h : jm_M} : jg_fr j h h := fun _ _ => rfl
theorem jg_fr_tr {j : Nat} {h h' h2 : jm_M} (a : jg_fr j h h') (b : jg_fr j h' h2) : jg_fr j h h2 := fun k hk => (b k hk).trans (a k hk)
theorem jg_fr_set {j : Nat} {h h' : jm_M} (a : jg_fr j h h') {f : Nat → Int32} : jg_fr j h (jm_set h' (5, j, 0) f) := fun k2 h2 => (jm_set_ne h2).trans (a k2 h2)
section JFR
variable {h : jm_M} {j a : Nat} {g : Nat → Nat} {i x : Int32} {c k w : Nat}
theorem jf_cats (R : jf_rel h j g) : h (2, j, 0) 9 = nI (g 0) := R.1
theorem jf_men (R : jf_rel h j g) : h (2, j, 0) 10 = nI (g 1) := R.2.1
theorem jf_hour (R : jf_rel h j g) : h (2, j, 0) 11 = nI (g 2) := R.2.2.1
theorem jf_day (R : jf_rel h j g) : h (2, j, 0) 12 = nI (g 3) := R.2.2.2.1
theorem jf_pass (R : jf_rel h j g) : h (2, j, 0) 13 = nI (sp_pb g) := R.2.2.2.2.1
theorem jf_fish (R : jf_rel h j g) (hi : i.toNatClampNeg = c) (hc : c < 16) : h (6, j, 0) i.toNatClampNeg = nI (g (4 + c)) := by rw [hi]; exact R.2.2.2.2.2.1 c hc
theorem jf_mice (R : jf_rel h j g) (hi : i.toNatClampNeg = c) (hc : c < 16) : h (6, j, 1) i.toNatClampNeg = nI (g (20 + c)) := by rw [hi]; exact R.2.2.2.2.2.2.1 c hc
theorem jf_kind (R : jf_rel h j g) (hi : i.toNatClampNeg = c) (hc : c < 6) : h (2, j, 1) i.toNatClampNeg = nI (g (36 + 5 * c)) := by rw [hi]; exact R.2.2.2.2.2.2.2.1 c hc
theorem jf_fig (R : jf_rel h j g) (hi : i.toNatClampNeg = c) (hc : c < 6) : h (2, j, 2) i.toNatClampNeg = nI (g (37 + 5 * c)) := by rw [hi]; exact R.2.2.2.2.2.2.2.2.1 c hc
theorem jf_at (R : jf_rel h j g) (hi : i.toNatClampNeg = c) (hc : c < 6) : h (2, j, 3) i.toNatClampNeg = nI (g (38 + 5 * c)) := by rw [hi]; exact R.2.2.2.2.2.2.2.2.2.1 c hc
theorem jf_hair (R : jf_rel h j g) (hi : i.toNatClampNeg = c) (hc : c < 6) : h (2, j, 4) i.toNatClampNeg = nI (g (39 + 5 * c)) := by rw [hi]; exact R.2.2.2.2.2.2.2.2.2.2.1 c hc
theorem jf_name (R : jf_rel h j g) (hi : i.toNatClampNeg = c) (hc : c < 6) : h (2, j, 5) i.toNatClampNeg = nI (g (40 + 5 * c)) := by rw [hi]; exact R.2.2.2.2.2.2.2.2.2.2.2.1 c hc
theorem jf_side (R : jf_rel h j g) (hi : i.toNatClampNeg = c) (hc : c < 6) : h (2, j, 6) i.toNatClampNeg = nI (g (66 + 2 * c)) := by rw [hi]; exact R.2.2.2.2.2.2.2.2.2.2.2.2 c hc
theorem jg_get (R : jg_rel h a g) (hi : i.toNatClampNeg = k) (hk : k < 78) : h (5, a, 0) i.toNatClampNeg = nI (g k) := by rw [hi]; exact R k hk
theorem jg_set (R : jg_rel h a g) (hi : i.toNatClampNeg = k) (hx : x = nI w) : jg_rel (jm_set h (5, a, 0) (upd (h (5, a, 0)) i.toNatClampNeg x)) a (sp_up g k w) := by
  intro q hq
  rw [jm_set_eq, hi]
  by_cases e : q = k
  · rw [sp_up_eq e, e, jx_eq]; exact hx
  · rw [sp_up_ne e, jx_ne e]; exact R q hq
theorem jf_mov {h2 : jm_M} (R : jf_rel h j g) (e : ∀ k : jm_K, (k.1 = 2 ∨ k.1 = 6) ∧ k.2.1 = j → h2 k = h k) : jf_rel h2 j g := by
  unfold jf_rel at R ⊢
  rw [e (2, j, 0) ⟨Or.inl rfl, rfl⟩, e (6, j, 0) ⟨Or.inr rfl, rfl⟩, e (6, j, 1) ⟨Or.inr rfl, rfl⟩, e (2, j, 1) ⟨Or.inl rfl, rfl⟩, e (2, j, 2) ⟨Or.inl rfl, rfl⟩, e (2, j, 3) ⟨Or.inl rfl, rfl⟩, e (2, j, 4) ⟨Or.inl rfl, rfl⟩, e (2, j, 5) ⟨Or.inl rfl, rfl⟩, e (2, j, 6) ⟨Or.inl rfl, rfl⟩]
  exact R
theorem jf_set_cats (R : jf_rel h j g) (hx : x = nI w) : jf_rel (jm_set h (2, j, 0) (upd (h (2, j, 0)) 9 x)) j (sp_up g 0 w) := by
  obtain ⟨a0, a1, a2, a3, a4, a5, a6, a7, a8, a9, a10, a11, a12⟩ := R
  refine ⟨?_, ?_, ?_, ?_, ?_, ?_, ?_, ?_, ?_, ?_, ?_, ?_, ?_⟩
  · rw [jm_set_eq, jx_eq, sp_up_eq rfl]; exact hx
  · rw [jm_set_eq, jx_ne (by decide), sp_up_ne (by decide)]; exact a1
  · rw [jm_set_eq, jx_ne (by decide), sp_up_ne (by decide)]; exact a2
  · rw [jm_set_eq, jx_ne (by decide), sp_up_ne (by decide)]; exact a3
  · rw [jm_set_eq, jx_ne (by decide), sp_pb_up (by omega)]; exact a4
  · intro p hp; rw [jm_set_ne (by simp), sp_up_ne (by omega)]; exact a5 p hp
  · intro p hp; rw [jm_set_ne (by simp), sp_up_ne (by omega)]; exact a6 p hp
  · intro p hp; rw [jm_set_ne (by simp), sp_up_ne (by omega)]; exact a7 p hp
  · intro p hp; rw [jm_set_ne (by simp), sp_up_ne (by omega)]; exact a8 p hp
  · intro p hp; rw [jm_set_ne (by simp), sp_up_ne (by omega)]; exact a9 p hp
  · intro p hp; rw [jm_set_ne (by simp), sp_up_ne (by omega)]; exact a10 p hp
  · intro p hp; rw [jm_set_ne (by simp), sp_up_ne (by omega)]; exact a11 p hp
  · intro p hp; rw [jm_set_ne (by simp), sp_up_ne (by omega)]; exact a12 p hp
theorem jf_set_men (R : jf_rel h j g) (hx : x = nI w) : jf_rel (jm_set h (2, j, 0) (upd (h (2, j, 0)) 10 x)) j (sp_up g 1 w) := by
  obtain ⟨a0, a1, a2, a3, a4, a5, a6, a7, a8, a9, a10, a11, a12⟩ := R
  refine ⟨?_, ?_, ?_, ?_, ?_, ?_, ?_, ?_, ?_, ?_, ?_, ?_, ?_⟩
  · rw [jm_set_eq, jx_ne (by decide), sp_up_ne (by decide)]; exact a0
  · rw [jm_set_eq, jx_eq, sp_up_eq rfl]; exact hx
  · rw [jm_set_eq, jx_ne (by decide), sp_up_ne (by decide)]; exact a2
  · rw [jm_set_eq, jx_ne (by decide), sp_up_ne (by decide)]; exact a3
  · rw [jm_set_eq, jx_ne (by decide), sp_pb_up (by omega)]; exact a4
  · intro p hp; rw [jm_set_ne (by simp), sp_up_ne (by omega)]; exact a5 p hp
  · intro p hp; rw [jm_set_ne (by simp), sp_up_ne (by omega)]; exact a6 p hp
  · intro p hp; rw [jm_set_ne (by simp), sp_up_ne (by omega)]; exact a7 p hp
  · intro p hp; rw [jm_set_ne (by simp), sp_up_ne (by omega)]; exact a8 p hp
  · intro p hp; rw [jm_set_ne (by simp), sp_up_ne (by omega)]; exact a9 p hp
  · intro p hp; rw [jm_set_ne (by simp), sp_up_ne (by omega)]; exact a10 p hp
  · intro p hp; rw [jm_set_ne (by simp), sp_up_ne (by omega)]; exact a11 p hp
  · intro p hp; rw [jm_set_ne (by simp), sp_up_ne (by omega)]; exact a12 p hp
theorem jf_set_hour (R : jf_rel h j g) (hx : x = nI w) : jf_rel (jm_set h (2, j, 0) (upd (h (2, j, 0)) 11 x)) j (sp_up g 2 w) := by
  obtain ⟨a0, a1, a2, a3, a4, a5, a6, a7, a8, a9, a10, a11, a12⟩ := R
  refine ⟨?_, ?_, ?_, ?_, ?_, ?_, ?_, ?_, ?_, ?_, ?_, ?_, ?_⟩
  · rw [jm_set_eq, jx_ne (by decide), sp_up_ne (by decide)]; exact a0
  · rw [jm_set_eq, jx_ne (by decide), sp_up_ne (by decide)]; exact a1
  · rw [jm_set_eq, jx_eq, sp_up_eq rfl]; exact hx
  · rw [jm_set_eq, jx_ne (by decide), sp_up_ne (by decide)]; exact a3
  · rw [jm_set_eq, jx_ne (by decide), sp_pb_up (by omega)]; exact a4
  · intro p hp; rw [jm_set_ne (by simp), sp_up_ne (by omega)]; exact a5 p hp
  · intro p hp; rw [jm_set_ne (by simp), sp_up_ne (by omega)]; exact a6 p hp
  · intro p hp; rw [jm_set_ne (by simp), sp_up_ne (by omega)]; exact a7 p hp
  · intro p hp; rw [jm_set_ne (by simp), sp_up_ne (by omega)]; exact a8 p hp
  · intro p hp; rw [jm_set_ne (by simp), sp_up_ne (by omega)]; exact a9 p hp
  · intro p hp; rw [jm_set_ne (by simp), sp_up_ne (by omega)]; exact a10 p hp
  · intro p hp; rw [jm_set_ne (by simp), sp_up_ne (by omega)]; exact a11 p hp
  · intro p hp; rw [jm_set_ne (by simp), sp_up_ne (by omega)]; exact a12 p hp
theorem jf_set_day (R : jf_rel h j g) (hx : x = nI w) : jf_rel (jm_set h (2, j, 0) (upd (h (2, j, 0)) 12 x)) j (sp_up g 3 w) := by
  obtain ⟨a0, a1, a2, a3, a4, a5, a6, a7, a8, a9, a10, a11, a12⟩ := R
  refine ⟨?_, ?_, ?_, ?_, ?_, ?_, ?_, ?_, ?_, ?_, ?_, ?_, ?_⟩
  · rw [jm_set_eq, jx_ne (by decide), sp_up_ne (by decide)]; exact a0
  · rw [jm_set_eq, jx_ne (by decide), sp_up_ne (by decide)]; exact a1
  · rw [jm_set_eq, jx_ne (by decide), sp_up_ne (by decide)]; exact a2
  · rw [jm_set_eq, jx_eq, sp_up_eq rfl]; exact hx
  · rw [jm_set_eq, jx_ne (by decide), sp_pb_up (by omega)]; exact a4
  · intro p hp; rw [jm_set_ne (by simp), sp_up_ne (by omega)]; exact a5 p hp
  · intro p hp; rw [jm_set_ne (by simp), sp_up_ne (by omega)]; exact a6 p hp
  · intro p hp; rw [jm_set_ne (by simp), sp_up_ne (by omega)]; exact a7 p hp
  · intro p hp; rw [jm_set_ne (by simp), sp_up_ne (by omega)]; exact a8 p hp
  · intro p hp; rw [jm_set_ne (by simp), sp_up_ne (by omega)]; exact a9 p hp
  · intro p hp; rw [jm_set_ne (by simp), sp_up_ne (by omega)]; exact a10 p hp
  · intro p hp; rw [jm_set_ne (by simp), sp_up_ne (by omega)]; exact a11 p hp
  · intro p hp; rw [jm_set_ne (by simp), sp_up_ne (by omega)]; exact a12 p hp
theorem jf_set_fish (R : jf_rel h j g) (hi : i.toNatClampNeg = c) (hc : c < 16) (hx : x = nI w) : jf_rel (jm_set h (6, j, 0) (upd (h (6, j, 0)) i.toNatClampNeg x)) j (sp_up g (4 + c) w) := by
  obtain ⟨a0, a1, a2, a3, a4, a5, a6, a7, a8, a9, a10, a11, a12⟩ := R
  refine ⟨?_, ?_, ?_, ?_, ?_, ?_, ?_, ?_, ?_, ?_, ?_, ?_, ?_⟩
  · rw [jm_set_ne (by simp), sp_up_ne (by omega)]; exact a0
  · rw [jm_set_ne (by simp), sp_up_ne (by omega)]; exact a1
  · rw [jm_set_ne (by simp), sp_up_ne (by omega)]; exact a2
  · rw [jm_set_ne (by simp), sp_up_ne (by omega)]; exact a3
  · rw [jm_set_ne (by simp), sp_pb_up (by omega)]; exact a4
  · intro p hp
    rw [jm_set_eq, hi]
    by_cases e : p = c
    · rw [e, jx_eq, sp_up_eq rfl]; exact hx
    · rw [jx_ne e, sp_up_ne (by omega)]; exact a5 p hp
  · intro p hp; rw [jm_set_ne (by simp), sp_up_ne (by omega)]; exact a6 p hp
  · intro p hp; rw [jm_set_ne (by simp), sp_up_ne (by omega)]; exact a7 p hp
  · intro p hp; rw [jm_set_ne (by simp), sp_up_ne (by omega)]; exact a8 p hp
  · intro p hp; rw [jm_set_ne (by simp), sp_up_ne (by omega)]; exact a9 p hp
  · intro p hp; rw [jm_set_ne (by simp), sp_up_ne (by omega)]; exact a10 p hp
  · intro p hp; rw [jm_set_ne (by simp), sp_up_ne (by omega)]; exact a11 p hp
  · intro p hp; rw [jm_set_ne (by simp), sp_up_ne (by omega)]; exact a12 p hp
theorem jf_set_mice (R : jf_rel h j g) (hi : i.toNatClampNeg = c) (hc : c < 16) (hx : x = nI w) : jf_rel (jm_set h (6, j, 1) (upd (h (6, j, 1)) i.toNatClampNeg x)) j (sp_up g (20 + c) w) := by
  obtain ⟨a0, a1, a2, a3, a4, a5, a6, a7, a8, a9, a10, a11, a12⟩ := R
  refine ⟨?_, ?_, ?_, ?_, ?_, ?_, ?_, ?_, ?_, ?_, ?_, ?_, ?_⟩
  · rw [jm_set_ne (by simp), sp_up_ne (by omega)]; exact a0
  · rw [jm_set_ne (by simp), sp_up_ne (by omega)]; exact a1
  · rw [jm_set_ne (by simp), sp_up_ne (by omega)]; exact a2
  · rw [jm_set_ne (by simp), sp_up_ne (by omega)]; exact a3
  · rw [jm_set_ne (by simp), sp_pb_up (by omega)]; exact a4
  · intro p hp; rw [jm_set_ne (by simp), sp_up_ne (by omega)]; exact a5 p hp
  · intro p hp
    rw [jm_set_eq, hi]
    by_cases e : p = c
    · rw [e, jx_eq, sp_up_eq rfl]; exact hx
    · rw [jx_ne e, sp_up_ne (by omega)]; exact a6 p hp
  · intro p hp; rw [jm_set_ne (by simp), sp_up_ne (by omega)]; exact a7 p hp
  · intro p hp; rw [jm_set_ne (by simp), sp_up_ne (by omega)]; exact a8 p hp
  · intro p hp; rw [jm_set_ne (by simp), sp_up_ne (by omega)]; exact a9 p hp
  · intro p hp; rw [jm_set_ne (by simp), sp_up_ne (by omega)]; exact a10 p hp
  · intro p hp; rw [jm_set_ne (by simp), sp_up_ne (by omega)]; exact a11 p hp
  · intro p hp; rw [jm_set_ne (by simp), sp_up_ne (by omega)]; exact a12 p hp
theorem jf_set_kind (R : jf_rel h j g) (hi : i.toNatClampNeg = c) (hc : c < 6) (hx : x = nI w) : jf_rel (jm_set h (2, j, 1) (upd (h (2, j, 1)) i.toNatClampNeg x)) j (sp_up g (36 + 5 * c) w) := by
  obtain ⟨a0, a1, a2, a3, a4, a5, a6, a7, a8, a9, a10, a11, a12⟩ := R
  refine ⟨?_, ?_, ?_, ?_, ?_, ?_, ?_, ?_, ?_, ?_, ?_, ?_, ?_⟩
  · rw [jm_set_ne (by simp), sp_up_ne (by omega)]; exact a0
  · rw [jm_set_ne (by simp), sp_up_ne (by omega)]; exact a1
  · rw [jm_set_ne (by simp), sp_up_ne (by omega)]; exact a2
  · rw [jm_set_ne (by simp), sp_up_ne (by omega)]; exact a3
  · rw [jm_set_ne (by simp), sp_pb_up (by omega)]; exact a4
  · intro p hp; rw [jm_set_ne (by simp), sp_up_ne (by omega)]; exact a5 p hp
  · intro p hp; rw [jm_set_ne (by simp), sp_up_ne (by omega)]; exact a6 p hp
  · intro p hp
    rw [jm_set_eq, hi]
    by_cases e : p = c
    · rw [e, jx_eq, sp_up_eq rfl]; exact hx
    · rw [jx_ne e, sp_up_ne (by omega)]; exact a7 p hp
  · intro p hp; rw [jm_set_ne (by simp), sp_up_ne (by omega)]; exact a8 p hp
  · intro p hp; rw [jm_set_ne (by simp), sp_up_ne (by omega)]; exact a9 p hp
  · intro p hp; rw [jm_set_ne (by simp), sp_up_ne (by omega)]; exact a10 p hp
  · intro p hp; rw [jm_set_ne (by simp), sp_up_ne (by omega)]; exact a11 p hp
  · intro p hp; rw [jm_set_ne (by simp), sp_up_ne (by omega)]; exact a12 p hp
theorem jf_set_fig (R : jf_rel h j g) (hi : i.toNatClampNeg = c) (hc : c < 6) (hx : x = nI w) : jf_rel (jm_set h (2, j, 2) (upd (h (2, j, 2)) i.toNatClampNeg x)) j (sp_up g (37 + 5 * c) w) := by
  obtain ⟨a0, a1, a2, a3, a4, a5, a6, a7, a8, a9, a10, a11, a12⟩ := R
  refine ⟨?_, ?_, ?_, ?_, ?_, ?_, ?_, ?_, ?_, ?_, ?_, ?_, ?_⟩
  · rw [jm_set_ne (by simp), sp_up_ne (by omega)]; exact a0
  · rw [jm_set_ne (by simp), sp_up_ne (by omega)]; exact a1
  · rw [jm_set_ne (by simp), sp_up_ne (by omega)]; exact a2
  · rw [jm_set_ne (by simp), sp_up_ne (by omega)]; exact a3
  · rw [jm_set_ne (by simp), sp_pb_up (by omega)]; exact a4
  · intro p hp; rw [jm_set_ne (by simp), sp_up_ne (by omega)]; exact a5 p hp
  · intro p hp; rw [jm_set_ne (by simp), sp_up_ne (by omega)]; exact a6 p hp
  · intro p hp; rw [jm_set_ne (by simp), sp_up_ne (by omega)]; exact a7 p hp
  · intro p hp
    rw [jm_set_eq, hi]
    by_cases e : p = c
    · rw [e, jx_eq, sp_up_eq rfl]; exact hx
    · rw [jx_ne e, sp_up_ne (by omega)]; exact a8 p hp
  · intro p hp; rw [jm_set_ne (by simp), sp_up_ne (by omega)]; exact a9 p hp
  · intro p hp; rw [jm_set_ne (by simp), sp_up_ne (by omega)]; exact a10 p hp
  · intro p hp; rw [jm_set_ne (by simp), sp_up_ne (by omega)]; exact a11 p hp
  · intro p hp; rw [jm_set_ne (by simp), sp_up_ne (by omega)]; exact a12 p hp
theorem jf_set_at (R : jf_rel h j g) (hi : i.toNatClampNeg = c) (hc : c < 6) (hx : x = nI w) : jf_rel (jm_set h (2, j, 3) (upd (h (2, j, 3)) i.toNatClampNeg x)) j (sp_up g (38 + 5 * c) w) := by
  obtain ⟨a0, a1, a2, a3, a4, a5, a6, a7, a8, a9, a10, a11, a12⟩ := R
  refine ⟨?_, ?_, ?_, ?_, ?_, ?_, ?_, ?_, ?_, ?_, ?_, ?_, ?_⟩
  · rw [jm_set_ne (by simp), sp_up_ne (by omega)]; exact a0
  · rw [jm_set_ne (by simp), sp_up_ne (by omega)]; exact a1
  · rw [jm_set_ne (by simp), sp_up_ne (by omega)]; exact a2
  · rw [jm_set_ne (by simp), sp_up_ne (by omega)]; exact a3
  · rw [jm_set_ne (by simp), sp_pb_up (by omega)]; exact a4
  · intro p hp; rw [jm_set_ne (by simp), sp_up_ne (by omega)]; exact a5 p hp
  · intro p hp; rw [jm_set_ne (by simp), sp_up_ne (by omega)]; exact a6 p hp
  · intro p hp; rw [jm_set_ne (by simp), sp_up_ne (by omega)]; exact a7 p hp
  · intro p hp; rw [jm_set_ne (by simp), sp_up_ne (by omega)]; exact a8 p hp
  · intro p hp
    rw [jm_set_eq, hi]
    by_cases e : p = c
    · rw [e, jx_eq, sp_up_eq rfl]; exact hx
    · rw [jx_ne e, sp_up_ne (by omega)]; exact a9 p hp
  · intro p hp; rw [jm_set_ne (by simp), sp_up_ne (by omega)]; exact a10 p hp
  · intro p hp; rw [jm_set_ne (by simp), sp_up_ne (by omega)]; exact a11 p hp
  · intro p hp; rw [jm_set_ne (by simp), sp_up_ne (by omega)]; exact a12 p hp
theorem jf_set_hair (R : jf_rel h j g) (hi : i.toNatClampNeg = c) (hc : c < 6) (hx : x = nI w) : jf_rel (jm_set h (2, j, 4) (upd (h (2, j, 4)) i.toNatClampNeg x)) j (sp_up g (39 + 5 * c) w) := by
  obtain ⟨a0, a1, a2, a3, a4, a5, a6, a7, a8, a9, a10, a11, a12⟩ := R
  refine ⟨?_, ?_, ?_, ?_, ?_, ?_, ?_, ?_, ?_, ?_, ?_, ?_, ?_⟩
  · rw [jm_set_ne (by simp), sp_up_ne (by omega)]; exact a0
  · rw [jm_set_ne (by simp), sp_up_ne (by omega)]; exact a1
  · rw [jm_set_ne (by simp), sp_up_ne (by omega)]; exact a2
  · rw [jm_set_ne (by simp), sp_up_ne (by omega)]; exact a3
  · rw [jm_set_ne (by simp), sp_pb_up (by omega)]; exact a4
  · intro p hp; rw [jm_set_ne (by simp), sp_up_ne (by omega)]; exact a5 p hp
  · intro p hp; rw [jm_set_ne (by simp), sp_up_ne (by omega)]; exact a6 p hp
  · intro p hp; rw [jm_set_ne (by simp), sp_up_ne (by omega)]; exact a7 p hp
  · intro p hp; rw [jm_set_ne (by simp), sp_up_ne (by omega)]; exact a8 p hp
  · intro p hp; rw [jm_set_ne (by simp), sp_up_ne (by omega)]; exact a9 p hp
  · intro p hp
    rw [jm_set_eq, hi]
    by_cases e : p = c
    · rw [e, jx_eq, sp_up_eq rfl]; exact hx
    · rw [jx_ne e, sp_up_ne (by omega)]; exact a10 p hp
  · intro p hp; rw [jm_set_ne (by simp), sp_up_ne (by omega)]; exact a11 p hp
  · intro p hp; rw [jm_set_ne (by simp), sp_up_ne (by omega)]; exact a12 p hp
theorem jf_set_name (R : jf_rel h j g) (hi : i.toNatClampNeg = c) (hc : c < 6) (hx : x = nI w) : jf_rel (jm_set h (2, j, 5) (upd (h (2, j, 5)) i.toNatClampNeg x)) j (sp_up g (40 + 5 * c) w) := by
  obtain ⟨a0, a1, a2, a3, a4, a5, a6, a7, a8, a9, a10, a11, a12⟩ := R
  refine ⟨?_, ?_, ?_, ?_, ?_, ?_, ?_, ?_, ?_, ?_, ?_, ?_, ?_⟩
  · rw [jm_set_ne (by simp), sp_up_ne (by omega)]; exact a0
  · rw [jm_set_ne (by simp), sp_up_ne (by omega)]; exact a1
  · rw [jm_set_ne (by simp), sp_up_ne (by omega)]; exact a2
  · rw [jm_set_ne (by simp), sp_up_ne (by omega)]; exact a3
  · rw [jm_set_ne (by simp), sp_pb_up (by omega)]; exact a4
  · intro p hp; rw [jm_set_ne (by simp), sp_up_ne (by omega)]; exact a5 p hp
  · intro p hp; rw [jm_set_ne (by simp), sp_up_ne (by omega)]; exact a6 p hp
  · intro p hp; rw [jm_set_ne (by simp), sp_up_ne (by omega)]; exact a7 p hp
  · intro p hp; rw [jm_set_ne (by simp), sp_up_ne (by omega)]; exact a8 p hp
  · intro p hp; rw [jm_set_ne (by simp), sp_up_ne (by omega)]; exact a9 p hp
  · intro p hp; rw [jm_set_ne (by simp), sp_up_ne (by omega)]; exact a10 p hp
  · intro p hp
    rw [jm_set_eq, hi]
    by_cases e : p = c
    · rw [e, jx_eq, sp_up_eq rfl]; exact hx
    · rw [jx_ne e, sp_up_ne (by omega)]; exact a11 p hp
  · intro p hp; rw [jm_set_ne (by simp), sp_up_ne (by omega)]; exact a12 p hp
theorem jf_set_side (R : jf_rel h j g) (hi : i.toNatClampNeg = c) (hc : c < 6) (hx : x = nI w) : jf_rel (jm_set h (2, j, 6) (upd (h (2, j, 6)) i.toNatClampNeg x)) j (sp_up g (66 + 2 * c) w) := by
  obtain ⟨a0, a1, a2, a3, a4, a5, a6, a7, a8, a9, a10, a11, a12⟩ := R
  refine ⟨?_, ?_, ?_, ?_, ?_, ?_, ?_, ?_, ?_, ?_, ?_, ?_, ?_⟩
  · rw [jm_set_ne (by simp), sp_up_ne (by omega)]; exact a0
  · rw [jm_set_ne (by simp), sp_up_ne (by omega)]; exact a1
  · rw [jm_set_ne (by simp), sp_up_ne (by omega)]; exact a2
  · rw [jm_set_ne (by simp), sp_up_ne (by omega)]; exact a3
  · rw [jm_set_ne (by simp), sp_pb_up (by omega)]; exact a4
  · intro p hp; rw [jm_set_ne (by simp), sp_up_ne (by omega)]; exact a5 p hp
  · intro p hp; rw [jm_set_ne (by simp), sp_up_ne (by omega)]; exact a6 p hp
  · intro p hp; rw [jm_set_ne (by simp), sp_up_ne (by omega)]; exact a7 p hp
  · intro p hp; rw [jm_set_ne (by simp), sp_up_ne (by omega)]; exact a8 p hp
  · intro p hp; rw [jm_set_ne (by simp), sp_up_ne (by omega)]; exact a9 p hp
  · intro p hp; rw [jm_set_ne (by simp), sp_up_ne (by omega)]; exact a10 p hp
  · intro p hp; rw [jm_set_ne (by simp), sp_up_ne (by omega)]; exact a11 p hp
  · intro p hp
    rw [jm_set_eq, hi]
    by_cases e : p = c
    · rw [e, jx_eq, sp_up_eq rfl]; exact hx
    · rw [jx_ne e, sp_up_ne (by omega)]; exact a12 p hp
theorem jf_set_pass (R : jf_rel h j g) {P : Nat} (hx : x = nI P) (hc : c < 6) (hw : sp_pb (sp_up g (67 + 2 * c) w) = P) : jf_rel (jm_set h (2, j, 0) (upd (h (2, j, 0)) 13 x)) j (sp_up g (67 + 2 * c) w) := by
  obtain ⟨a0, a1, a2, a3, a4, a5, a6, a7, a8, a9, a10, a11, a12⟩ := R
  refine ⟨?_, ?_, ?_, ?_, ?_, ?_, ?_, ?_, ?_, ?_, ?_, ?_, ?_⟩
  · rw [jm_set_eq, jx_ne (by decide), sp_up_ne (by omega)]; exact a0
  · rw [jm_set_eq, jx_ne (by decide), sp_up_ne (by omega)]; exact a1
  · rw [jm_set_eq, jx_ne (by decide), sp_up_ne (by omega)]; exact a2
  · rw [jm_set_eq, jx_ne (by decide), sp_up_ne (by omega)]; exact a3
  · rw [jm_set_eq, jx_eq, hw]; exact hx
  · intro p hp; rw [jm_set_ne (by simp), sp_up_ne (by omega)]; exact a5 p hp
  · intro p hp; rw [jm_set_ne (by simp), sp_up_ne (by omega)]; exact a6 p hp
  · intro p hp; rw [jm_set_ne (by simp), sp_up_ne (by omega)]; exact a7 p hp
  · intro p hp; rw [jm_set_ne (by simp), sp_up_ne (by omega)]; exact a8 p hp
  · intro p hp; rw [jm_set_ne (by simp), sp_up_ne (by omega)]; exact a9 p hp
  · intro p hp; rw [jm_set_ne (by simp), sp_up_ne (by omega)]; exact a10 p hp
  · intro p hp; rw [jm_set_ne (by simp), sp_up_ne (by omega)]; exact a11 p hp
  · intro p hp; rw [jm_set_ne (by simp), sp_up_ne (by omega)]; exact a12 p hp
theorem jf_set_cr (R : jf_rel h j g) : jf_rel (jm_set h (2, j, 0) (upd (h (2, j, 0)) 14 x)) j g := by
  obtain ⟨a0, a1, a2, a3, a4, a5, a6, a7, a8, a9, a10, a11, a12⟩ := R
  refine ⟨?_, ?_, ?_, ?_, ?_, ?_, ?_, ?_, ?_, ?_, ?_, ?_, ?_⟩
  · rw [jm_set_eq, jx_ne (by decide)]; exact a0
  · rw [jm_set_eq, jx_ne (by decide)]; exact a1
  · rw [jm_set_eq, jx_ne (by decide)]; exact a2
  · rw [jm_set_eq, jx_ne (by decide)]; exact a3
  · rw [jm_set_eq, jx_ne (by decide)]; exact a4
  · intro p hp; rw [jm_set_ne (by simp)]; exact a5 p hp
  · intro p hp; rw [jm_set_ne (by simp)]; exact a6 p hp
  · intro p hp; rw [jm_set_ne (by simp)]; exact a7 p hp
  · intro p hp; rw [jm_set_ne (by simp)]; exact a8 p hp
  · intro p hp; rw [jm_set_ne (by simp)]; exact a9 p hp
  · intro p hp; rw [jm_set_ne (by simp)]; exact a10 p hp
  · intro p hp; rw [jm_set_ne (by simp)]; exact a11 p hp
  · intro p hp; rw [jm_set_ne (by simp)]; exact a12 p hp
end JFR
/-- all numbers in their ranges; a name is a man's, or none -/
def jw (g : Nat → Nat) : Prop := g 0 ≤ 6 ∧ g 1 ≤ 6 ∧ g 2 < 24 ∧ (∀ p, p < 16 → g (4 + p) ≤ 9) ∧ (∀ p, p < 16 → g (20 + p) ≤ 9) ∧ (∀ c, c < 6 → g (36 + 5 * c) < 8) ∧ (∀ c, c < 6 → g (37 + 5 * c) < 10) ∧ (∀ c, c < 6 → g (38 + 5 * c) < 16) ∧ (∀ c, c < 6 → g (39 + 5 * c) ≤ 99) ∧ (∀ c, c < 6 → g (40 + 5 * c) ≤ 9) ∧ (∀ p, p < 6 → g (66 + 2 * p) ≤ 1) ∧ (∀ p, p < 6 → g (67 + 2 * p) ≤ 1) ∧ (∀ c, c < g 0 → g (40 + 5 * c) = 9 ∨ g (40 + 5 * c) < g 1) ∧ (∀ p, p < 6 → g 1 ≤ p → g (67 + 2 * p) = 0)
section JW
variable {g : Nat → Nat} {c p : Nat}
theorem jw_n (W : jw g) : g 0 ≤ 6 := W.1
theorem jw_m (W : jw g) : g 1 ≤ 6 := W.2.1
theorem jw_t (W : jw g) : g 2 < 24 := W.2.2.1
theorem jw_fish (W : jw g) (hp : p < 16) : g (4 + p) ≤ 9 := W.2.2.2.1 p hp
theorem jw_mice (W : jw g) (hp : p < 16) : g (20 + p) ≤ 9 := W.2.2.2.2.1 p hp
theorem jw_kind (W : jw g) (hc : c < 6) : g (36 + 5 * c) < 8 := W.2.2.2.2.2.1 c hc
theorem jw_fig (W : jw g) (hc : c < 6) : g (37 + 5 * c) < 10 := W.2.2.2.2.2.2.1 c hc
theorem jw_at (W : jw g) (hc : c < 6) : g (38 + 5 * c) < 16 := W.2.2.2.2.2.2.2.1 c hc
theorem jw_hair (W : jw g) (hc : c < 6) : g (39 + 5 * c) ≤ 99 := W.2.2.2.2.2.2.2.2.1 c hc
theorem jw_name (W : jw g) (hc : c < 6) : g (40 + 5 * c) ≤ 9 := W.2.2.2.2.2.2.2.2.2.1 c hc
theorem jw_side (W : jw g) (hc : c < 6) : g (66 + 2 * c) ≤ 1 := W.2.2.2.2.2.2.2.2.2.2.1 c hc
theorem jw_pas (W : jw g) (hc : c < 6) : g (67 + 2 * c) ≤ 1 := W.2.2.2.2.2.2.2.2.2.2.2.1 c hc
theorem jw_nm (W : jw g) (hc : c < g 0) : g (40 + 5 * c) = 9 ∨ g (40 + 5 * c) < g 1 := W.2.2.2.2.2.2.2.2.2.2.2.2.1 c hc
theorem jw_pas0 (W : jw g) (hp : p < 6) (h : g 1 ≤ p) : g (67 + 2 * p) = 0 := W.2.2.2.2.2.2.2.2.2.2.2.2.2 p hp h
theorem jw_pb (W : jw g) : sp_pb g < 64 := by
  have h0 : g 67 ≤ 1 := jw_pas W (c := 0) (by decide); have h1 : g 69 ≤ 1 := jw_pas W (c := 1) (by decide); have h2 : g 71 ≤ 1 := jw_pas W (c := 2) (by decide); have h3 : g 73 ≤ 1 := jw_pas W (c := 3) (by decide); have h4 : g 75 ≤ 1 := jw_pas W (c := 4) (by decide); have h5 : g 77 ≤ 1 := jw_pas W (c := 5) (by decide)
  unfold sp_pb
  omega
end JW
/-! what is asked of it -/
def sp_ap (a b : Nat) : Nat := if a < b then b - a else a - b
def sp_sd (p : Nat) : Nat := if p ≤ 7 then 0 else 1
/-- of fish (o = 4) or mice (o = 20): the most, the nearest, the least, among from and the places below k -/
def sp_rich (g : Nat → Nat) (o fm : Nat) : Nat → Nat
  | 0 => fm
  | k + 1 => if g (o + sp_rich g o fm k) < g (o + k) ∨ (g (o + k) = g (o + sp_rich g o fm k) ∧ sp_ap k fm < sp_ap (sp_rich g o fm k) fm) then k else sp_rich g o fm k
/-- the nearest other cat among those below k, and how far (16: none) -/
def sp_near (g : Nat → Nat) (c : Nat) : Nat → Nat × Nat
  | 0 => (c, 16)
  | k + 1 => if k ≠ c ∧ sp_ap (g (38 + 5 * k)) (g (38 + 5 * c)) < (sp_near g c k).2 then (k, sp_ap (g (38 + 5 * k)) (g (38 + 5 * c))) else sp_near g c k
def sp_goalK (g : Nat → Nat) (c k : Nat) : Nat := match k with
  | 1 => sp_rich g 20 (g (38 + 5 * c)) 16
  | 2 => g (38 + 5 * (sp_near g c (g 0)).1)
  | 3 => g (38 + 5 * c)
  | 4 => if g 2 % 2 = 0 then 15 - g (38 + 5 * c) else g (38 + 5 * c)
  | 5 => if 20 ≤ g 2 ∨ g 2 ≤ 4 then sp_rich g 4 (g (38 + 5 * c)) 16 else g (38 + 5 * c)
  | 6 => g (38 + 5 * (sp_near g c (g 0)).1)
  | _ => sp_rich g 4 (g (38 + 5 * c)) 16
def sp_goal (g : Nat → Nat) (c : Nat) : Nat := sp_goalK g c (g (36 + 5 * c))
def sp_pace (k f t : Nat) : Nat := match k with
  | 2 => 1 + f / 4 + 1
  | 4 => 3
  | 6 => 2 * (1 + f / 4 + 1)
  | 7 => if t % 3 = 0 then 1 else 0
  | _ => 1 + f / 4
def sp_grow (k : Nat) : Nat := match k with
  | 3 => 2
  | 5 => 0
  | _ => 1
abbrev sp_read (g : Nat → Nat) (c : Nat) : Prop := ¬ g (40 + 5 * c) = 9 ∧ (g (36 + 5 * c) = 5 ∨ g (39 + 5 * c) < 48)
/-- goes there, no farther than the pace -/
def sp_to (fm goal pace : Nat) : Nat := if fm < goal then fm + min (goal - fm) pace else fm - min (fm - goal) pace
def sp_eat (g : Nat → Nat) (p : Nat) : Nat → Nat := if 0 < g (4 + p) then sp_up g (4 + p) (g (4 + p) - 1) else g
def sp_toc (g : Nat → Nat) (c : Nat) : Nat := sp_to (g (38 + 5 * c)) (sp_goal g c) (sp_pace (g (36 + 5 * c)) (g (37 + 5 * c)) (g 2))
def sp_move (g : Nat → Nat) (c : Nat) : Nat → Nat := if sp_toc g c = g (38 + 5 * c) then g else sp_eat (sp_up g (38 + 5 * c) (sp_toc g c)) (sp_toc g c)
def sp_hair (g : Nat → Nat) (c : Nat) : Nat → Nat := sp_up g (39 + 5 * c) (min 99 (g (39 + 5 * c) + sp_grow (g (36 + 5 * c))))
def sp_pass (g : Nat → Nat) (c fm : Nat) : Nat → Nat := if (¬ g (40 + 5 * c) = 9 ∧ (g (36 + 5 * c) = 5 ∨ g (39 + 5 * c) < 48)) ∧ g (66 + 2 * g (40 + 5 * c)) = fm ∧ g (67 + 2 * g (40 + 5 * c)) = 0 then sp_up (sp_up g (67 + 2 * g (40 + 5 * c)) 1) (66 + 2 * g (40 + 5 * c)) (1 - fm) else g
/-- a cat's hour (kept: dogs), and whether it crosses -/
def sp_gone (g : Nat → Nat) (c : Nat) (kept : Bool) : Nat → Nat := sp_hair (if kept then g else sp_move g c) c
def sp_one (g : Nat → Nat) (c : Nat) (kept : Bool) : Nat → Nat := if sp_sd (g (38 + 5 * c)) ≠ sp_sd (sp_gone g c kept (38 + 5 * c)) then sp_pass (sp_gone g c kept) c (sp_sd (g (38 + 5 * c))) else sp_gone g c kept
def sp_cats (g : Nat → Nat) (kept : Bool) : Nat → (Nat → Nat) × Nat
  | 0 => (g, 0)
  | c + 1 => (sp_one (sp_cats g kept c).1 c kept, if sp_sd ((sp_cats g kept c).1 (38 + 5 * c)) ≠ sp_sd (sp_gone (sp_cats g kept c).1 c kept (38 + 5 * c)) then (sp_cats g kept c).2 + 2 ^ c else (sp_cats g kept c).2)
def sp_clock (g : Nat → Nat) : Nat → Nat := if g 2 + 1 = 24 then sp_up (sp_up g 2 0) 3 (g 3 + 1) else sp_up g 2 (g 2 + 1)
def sp_hour (g : Nat → Nat) (kept : Bool) : Nat → Nat := sp_clock (sp_cats g kept (g 0)).1
def sp_set (g : Nat → Nat) (kept : Bool) : Nat := (sp_cats g kept (g 0)).2
end
section
/-! CLASS: small questions. -/
theorem jt_lb1 {P : Prop} [Decidable P] (h : P) : (some (.inl (nI 1)) : Option jm_V) = some (.inl (jm_b P)) := by rw [jm_b_pos h]; rfl
theorem jt_lb0 {P : Prop} [Decidable P] (h : ¬ P) : (some (.inl (nI 0)) : Option jm_V) = some (.inl (jm_b P)) := by rw [jm_b_neg h]; rfl
theorem jt_li {x y : Int32} (h : x = y) : (some (.inl x) : Option jm_V) = some (.inl y) := by rw [h]
theorem jt_ln {x y : Nat} (h : x = y) : (some (.inl (nI x)) : Option jm_V) = some (.inl (nI y)) := by rw [h]
theorem jx_up {P : Nat → Prop} {n : Nat} (step : ∀ k, k ≤ n → (k < n → P (k + 1)) → P k) : ∀ k, k ≤ n → P k := by
  have key : ∀ d k, k ≤ n → n - k = d → P k := by
    intro d
    induction d with
    | zero => intro k hk hd; exact step k hk (fun q => absurd q (by omega))
    | succ d ih => intro k hk hd; exact step k hk (fun q => ih (k + 1) q (by omega))
  exact fun k hk => key _ k hk rfl
set_option maxRecDepth 100000 in
theorem jx_abs16 : ∀ a, a < 17 → ∀ b, b < 17 → (if 0 ≤ nI a - nI b then nI a - nI b else 0 - (nI a - nI b)) = nI (sp_ap a b) := by decide +kernel
set_option maxRecDepth 100000 in
theorem jx_to16 : ∀ p, p < 9 → ∀ a, a < 16 → ∀ b, b < 16 → nI a + (if -(nI p) < (if nI b - nI a < nI p then nI b - nI a else nI p) then (if nI b - nI a < nI p then nI b - nI a else nI p) else -(nI p)) = nI (sp_to a b p) := by decide +kernel
set_option maxRecDepth 100000 in
theorem jx_bit : ∀ P, P < 64 → ∀ p, p < 6 → (nI P >>> (nI p &&& 31)) &&& nI 1 = nI (P / 2 ^ p % 2) := by decide +kernel
set_option maxRecDepth 100000 in
theorem jx_orb : ∀ P, P < 64 → ∀ p, p < 6 → P / 2 ^ p % 2 = 0 → nI P ||| (nI 1 <<< (nI p &&& 31)) = nI (P + 2 ^ p) := by decide +kernel
theorem jx_pbit {g : Nat → Nat} (W : jw g) {p : Nat} (hp : p < 6) : sp_pb g / 2 ^ p % 2 = g (67 + 2 * p) := by
  have h0 : g 67 ≤ 1 := jw_pas W (c := 0) (by decide); have h1 : g 69 ≤ 1 := jw_pas W (c := 1) (by decide); have h2 : g 71 ≤ 1 := jw_pas W (c := 2) (by decide); have h3 : g 73 ≤ 1 := jw_pas W (c := 3) (by decide); have h4 : g 75 ≤ 1 := jw_pas W (c := 4) (by decide); have h5 : g 77 ≤ 1 := jw_pas W (c := 5) (by decide)
  unfold sp_pb
  rcases (show p = 0 ∨ p = 1 ∨ p = 2 ∨ p = 3 ∨ p = 4 ∨ p = 5 by omega) with rfl | rfl | rfl | rfl | rfl | rfl <;> simp only [Nat.reduceMul, Nat.reduceAdd, Nat.reducePow] <;> omega
theorem jx_pbup {g : Nat → Nat} {p : Nat} (hp : p < 6) (h : g (67 + 2 * p) = 0) : sp_pb (sp_up g (67 + 2 * p) 1) = sp_pb g + 2 ^ p := by
  unfold sp_pb
  rcases (show p = 0 ∨ p = 1 ∨ p = 2 ∨ p = 3 ∨ p = 4 ∨ p = 5 by omega) with rfl | rfl | rfl | rfl | rfl | rfl <;> simp only [Nat.reduceMul, Nat.reduceAdd, Nat.reducePow] at h ⊢ <;> simp only [sp_up, h] <;> simp <;> omega
theorem jx_cat {x : Int32} {n : Nat} (hn : n < 2 ^ 31) (h : nI 0 ≤ x ∧ x < nI n) : ∃ c : Nat, c < n ∧ x = nI c := by
  obtain ⟨j, hj, rfl⟩ := nI_of (x := x) (Int32.not_lt.mpr h.1)
  exact ⟨j, (nI_ltI hj hn).mp h.2, rfl⟩
theorem jx_win {x : Int32} {n : Nat} (hn : n < 2 ^ 31) (h : nI 0 ≤ x ∧ x ≤ nI n) : ∃ c : Nat, c ≤ n ∧ x = nI c := by
  obtain ⟨j, hj, rfl⟩ := nI_of (x := x) (Int32.not_lt.mpr h.1)
  exact ⟨j, (nI_leI hj hn).mp h.2, rfl⟩
theorem sp_sd_le (p : Nat) : sp_sd p ≤ 1 := by unfold sp_sd; split <;> omega
set_option maxRecDepth 100000 in
theorem jx_d4 : ∀ f, f < 10 → nI f / nI 4 = nI (f / 4) := by decide +kernel
set_option maxRecDepth 100000 in
theorem jx_r3 : ∀ t, t < 24 → nI t - nI t / nI 3 * nI 3 = nI (t % 3) := by decide +kernel
set_option maxRecDepth 100000 in
theorem jx_r2 : ∀ t, t < 24 → nI t - nI t / nI 2 * nI 2 = nI (t % 2) := by decide +kernel
set_option maxHeartbeats 4000000 in
set_option maxRecDepth 20000 in
theorem ta_within {h : jm_M} {x a b : Int32} : jt_Pu 136 [.inl (x), .inl (a), .inl (b)] h (.inl (jm_b (a ≤ x ∧ x ≤ b))) := by
  show jt_T 136 (0, [(0, .inl (x)), (1, .inl (a)), (2, .inl (b))], [], h) _
  refine jt_go jm_m136 0 2 (f' := (2, [(0, .inl (x)), (1, .inl (a)), (2, .inl (b))], [.inl (a), .inl (x)], h)) (P := True) rfl trivial ?_
  refine jt_iclt jm_m136 2 (tgt := 14) (nxt := 5) rfl rfl rfl (fun c2 => ?_) (fun c2 => ?_)
  · refine jt_go jm_m136 8 1 (f' := (15, [(0, .inl (x)), (1, .inl (a)), (2, .inl (b))], [.inl (nI 0)], h)) (P := True) rfl trivial ?_
    refine jt_zret jm_m136 9 rfl (Or.inl rfl) ?_
    exact ⟨jt_lb0 (fun z => absurd (Int32.not_lt.mpr z.1) (fun q => q c2)), rfl⟩
  · refine jt_go jm_m136 3 2 (f' := (7, [(0, .inl (x)), (1, .inl (a)), (2, .inl (b))], [.inl (b), .inl (x)], h)) (P := True) rfl trivial ?_
    refine jt_icgt jm_m136 5 (tgt := 14) (nxt := 10) rfl rfl rfl (fun c7 => ?_) (fun c7 => ?_)
    · refine jt_go jm_m136 8 1 (f' := (15, [(0, .inl (x)), (1, .inl (a)), (2, .inl (b))], [.inl (nI 0)], h)) (P := True) rfl trivial ?_
      refine jt_zret jm_m136 9 rfl (Or.inl rfl) ?_
      exact ⟨jt_lb0 (fun z => absurd (Int32.not_lt.mpr z.2) (fun q => q c7)), rfl⟩
    · refine jt_go jm_m136 6 2 (f' := (15, [(0, .inl (x)), (1, .inl (a)), (2, .inl (b))], [.inl (nI 1)], h)) (P := True) rfl trivial ?_
      refine jt_zret jm_m136 9 rfl (Or.inr rfl) ?_
      exact ⟨jt_lb1 (⟨Int32.not_lt.mp c2, Int32.not_lt.mp c7⟩), rfl⟩
set_option maxHeartbeats 4000000 in
set_option maxRecDepth 20000 in
theorem ta_shelf {h : jm_M} {x : Int32} : jt_Pu 137 [.inl (x)] h (.inl (jm_b (nI 0 ≤ x ∧ x ≤ nI 7))) := by
  show jt_T 137 (0, [(0, .inl (x))], [], h) _
  refine jt_go jm_m137 0 3 (f' := (4, [(0, .inl (x))], [.inl (nI 7), .inl (nI 0), .inl (x)], h)) (P := True) rfl trivial ?_
  refine jt_callp (w := .inl (jm_b (nI 0 ≤ x ∧ x ≤ nI 7))) jm_m137 3 (mi' := 136) (as := [.inl (x), .inl (nI 0), .inl (nI 7)]) (rest := []) (nxt := 7) rfl rfl jm_m136 rfl rfl (ta_within) ?_
  refine jt_zret jm_m137 4 rfl (jm_b_01 _) ?_
  exact ⟨rfl, rfl⟩
set_option maxHeartbeats 4000000 in
set_option maxRecDepth 20000 in
theorem ta_place {h : jm_M} {x : Int32} : jt_Pu 138 [.inl (x)] h (.inl (jm_b (nI 0 ≤ x ∧ x ≤ nI 15))) := by
  show jt_T 138 (0, [(0, .inl (x))], [], h) _
  refine jt_go jm_m138 0 3 (f' := (4, [(0, .inl (x))], [.inl (nI 15), .inl (nI 0), .inl (x)], h)) (P := True) rfl trivial ?_
  refine jt_callp (w := .inl (jm_b (nI 0 ≤ x ∧ x ≤ nI 15))) jm_m138 3 (mi' := 136) (as := [.inl (x), .inl (nI 0), .inl (nI 15)]) (rest := []) (nxt := 7) rfl rfl jm_m136 rfl rfl (ta_within) ?_
  refine jt_zret jm_m138 4 rfl (jm_b_01 _) ?_
  exact ⟨rfl, rfl⟩
set_option maxHeartbeats 4000000 in
set_option maxRecDepth 20000 in
theorem ta_sidei {h : jm_M} {x : Int32} : jt_Pu 139 [.inl (x)] h (.inl (jm_b (nI 0 ≤ x ∧ x ≤ nI 1))) := by
  show jt_T 139 (0, [(0, .inl (x))], [], h) _
  refine jt_go jm_m139 0 3 (f' := (3, [(0, .inl (x))], [.inl (nI 1), .inl (nI 0), .inl (x)], h)) (P := True) rfl trivial ?_
  refine jt_callp (w := .inl (jm_b (nI 0 ≤ x ∧ x ≤ nI 1))) jm_m139 3 (mi' := 136) (as := [.inl (x), .inl (nI 0), .inl (nI 1)]) (rest := []) (nxt := 6) rfl rfl jm_m136 rfl rfl (ta_within) ?_
  refine jt_zret jm_m139 4 rfl (jm_b_01 _) ?_
  exact ⟨rfl, rfl⟩
set_option maxHeartbeats 4000000 in
set_option maxRecDepth 20000 in
theorem ta_kind {h : jm_M} {x : Int32} : jt_Pu 140 [.inl (x)] h (.inl (jm_b (nI 0 ≤ x ∧ x ≤ nI 7))) := by
  show jt_T 140 (0, [(0, .inl (x))], [], h) _
  refine jt_go jm_m140 0 3 (f' := (4, [(0, .inl (x))], [.inl (nI 7), .inl (nI 0), .inl (x)], h)) (P := True) rfl trivial ?_
  refine jt_callp (w := .inl (jm_b (nI 0 ≤ x ∧ x ≤ nI 7))) jm_m140 3 (mi' := 136) (as := [.inl (x), .inl (nI 0), .inl (nI 7)]) (rest := []) (nxt := 7) rfl rfl jm_m136 rfl rfl (ta_within) ?_
  refine jt_zret jm_m140 4 rfl (jm_b_01 _) ?_
  exact ⟨rfl, rfl⟩
set_option maxHeartbeats 4000000 in
set_option maxRecDepth 20000 in
theorem ta_ahead {h : jm_M} {x : Int32} : jt_Pu 141 [.inl (x)] h (.inl (jm_b (nI 0 ≤ x ∧ x ≤ nI 99))) := by
  show jt_T 141 (0, [(0, .inl (x))], [], h) _
  refine jt_go jm_m141 0 3 (f' := (4, [(0, .inl (x))], [.inl (nI 99), .inl (nI 0), .inl (x)], h)) (P := True) rfl trivial ?_
  refine jt_callp (w := .inl (jm_b (nI 0 ≤ x ∧ x ≤ nI 99))) jm_m141 3 (mi' := 136) (as := [.inl (x), .inl (nI 0), .inl (nI 99)]) (rest := []) (nxt := 7) rfl rfl jm_m136 rfl rfl (ta_within) ?_
  refine jt_zret jm_m141 4 rfl (jm_b_01 _) ?_
  exact ⟨rfl, rfl⟩
set_option maxHeartbeats 4000000 in
set_option maxRecDepth 20000 in
theorem ta_sideOf {h : jm_M} {p : Nat} (hp : p < 16) : jt_Pu 142 [.inl (nI p)] h (.inl (nI (sp_sd p))) := by
  show jt_T 142 (0, [(0, .inl (nI p))], [], h) _
  refine jt_go jm_m142 0 2 (f' := (3, [(0, .inl (nI p))], [.inl (nI 7), .inl (nI p)], h)) (P := True) rfl trivial ?_
  refine jt_nicgt jm_m142 2 (a := p) (b := 7) (by omega) (by omega) (tgt := 10) (nxt := 6) rfl rfl rfl (fun c3 => ?_) (fun c3 => ?_)
  · refine jt_go jm_m142 5 1 (f' := (11, [(0, .inl (nI p))], [.inl (nI 1)], h)) (P := True) rfl trivial ?_
    refine jt_iret jm_m142 6 rfl ?_
    exact ⟨jt_ln (by unfold sp_sd; rw [if_neg (by omega)]), rfl⟩
  · refine jt_go jm_m142 3 2 (f' := (11, [(0, .inl (nI p))], [.inl (nI 0)], h)) (P := True) rfl trivial ?_
    refine jt_iret jm_m142 6 rfl ?_
    exact ⟨jt_ln (by unfold sp_sd; rw [if_pos (by omega)]), rfl⟩
set_option maxHeartbeats 4000000 in
set_option maxRecDepth 20000 in
theorem ta_hasCat {h : jm_M} {j : Nat} {g : Nat → Nat} (R : jf_rel h j g) (W : jw g) {x : Int32} : jt_Pu 7 [.inr (.inr (2, j, 0)), .inl (x)] h (.inl (jm_b (nI 0 ≤ x ∧ x < nI (g 0)))) := by
  show jt_T 7 (0, [(0, .inr (.inr (2, j, 0))), (1, .inl (x))], [], h) _
  refine jt_go jm_m7 0 1 (f' := (1, [(0, .inr (.inr (2, j, 0))), (1, .inl (x))], [.inl (x)], h)) (P := True) rfl trivial ?_
  refine jt_iflt jm_m7 1 (tgt := 16) (nxt := 4) rfl rfl rfl (fun c1 => ?_) (fun c1 => ?_)
  · refine jt_go jm_m7 8 1 (f' := (17, [(0, .inr (.inr (2, j, 0))), (1, .inl (x))], [.inl (nI 0)], h)) (P := True) rfl trivial ?_
    refine jt_zret jm_m7 9 rfl (Or.inl rfl) ?_
    exact ⟨jt_lb0 (fun z => absurd (Int32.not_lt.mpr z.1) (fun q => q c1)), rfl⟩
  · refine jt_go jm_m7 2 3 (f' := (9, [(0, .inr (.inr (2, j, 0))), (1, .inl (x))], [.inl (h (2, j, 0) 9), .inl (x)], h)) (P := True) rfl trivial ?_
    refine jt_ti (show h (2, j, 0) 9 = nI (g 0) from jf_cats R) ?_
    have bq1 := jw_n W
    refine jt_icge jm_m7 5 (tgt := 16) (nxt := 12) rfl rfl rfl (fun c9 => ?_) (fun c9 => ?_)
    · refine jt_go jm_m7 8 1 (f' := (17, [(0, .inr (.inr (2, j, 0))), (1, .inl (x))], [.inl (nI 0)], h)) (P := True) rfl trivial ?_
      refine jt_zret jm_m7 9 rfl (Or.inl rfl) ?_
      exact ⟨jt_lb0 (fun z => c9 z.2), rfl⟩
    · refine jt_go jm_m7 6 2 (f' := (17, [(0, .inr (.inr (2, j, 0))), (1, .inl (x))], [.inl (nI 1)], h)) (P := True) rfl trivial ?_
      refine jt_zret jm_m7 9 rfl (Or.inr rfl) ?_
      exact ⟨jt_lb1 (⟨Int32.not_lt.mp c1, c9⟩), rfl⟩
set_option maxHeartbeats 4000000 in
set_option maxRecDepth 20000 in
theorem ta_hasMan {h : jm_M} {j : Nat} {g : Nat → Nat} (R : jf_rel h j g) (W : jw g) {x : Int32} : jt_Pu 8 [.inr (.inr (2, j, 0)), .inl (x)] h (.inl (jm_b (nI 0 ≤ x ∧ x < nI (g 1)))) := by
  show jt_T 8 (0, [(0, .inr (.inr (2, j, 0))), (1, .inl (x))], [], h) _
  refine jt_go jm_m8 0 1 (f' := (1, [(0, .inr (.inr (2, j, 0))), (1, .inl (x))], [.inl (x)], h)) (P := True) rfl trivial ?_
  refine jt_iflt jm_m8 1 (tgt := 16) (nxt := 4) rfl rfl rfl (fun c1 => ?_) (fun c1 => ?_)
  · refine jt_go jm_m8 8 1 (f' := (17, [(0, .inr (.inr (2, j, 0))), (1, .inl (x))], [.inl (nI 0)], h)) (P := True) rfl trivial ?_
    refine jt_zret jm_m8 9 rfl (Or.inl rfl) ?_
    exact ⟨jt_lb0 (fun z => absurd (Int32.not_lt.mpr z.1) (fun q => q c1)), rfl⟩
  · refine jt_go jm_m8 2 3 (f' := (9, [(0, .inr (.inr (2, j, 0))), (1, .inl (x))], [.inl (h (2, j, 0) 10), .inl (x)], h)) (P := True) rfl trivial ?_
    refine jt_ti (show h (2, j, 0) 10 = nI (g 1) from jf_men R) ?_
    have bq1 := jw_m W
    refine jt_icge jm_m8 5 (tgt := 16) (nxt := 12) rfl rfl rfl (fun c9 => ?_) (fun c9 => ?_)
    · refine jt_go jm_m8 8 1 (f' := (17, [(0, .inr (.inr (2, j, 0))), (1, .inl (x))], [.inl (nI 0)], h)) (P := True) rfl trivial ?_
      refine jt_zret jm_m8 9 rfl (Or.inl rfl) ?_
      exact ⟨jt_lb0 (fun z => c9 z.2), rfl⟩
    · refine jt_go jm_m8 6 2 (f' := (17, [(0, .inr (.inr (2, j, 0))), (1, .inl (x))], [.inl (nI 1)], h)) (P := True) rfl trivial ?_
      refine jt_zret jm_m8 9 rfl (Or.inr rfl) ?_
      exact ⟨jt_lb1 (⟨Int32.not_lt.mp c1, c9⟩), rfl⟩
set_option maxHeartbeats 4000000 in
set_option maxRecDepth 20000 in
theorem ta_hasName {h : jm_M} {j : Nat} {g : Nat → Nat} (R : jf_rel h j g) (W : jw g) {x : Int32} : jt_Pu 9 [.inr (.inr (2, j, 0)), .inl (x)] h (.inl (jm_b (x = nI 9 ∨ (nI 0 ≤ x ∧ x < nI (g 1))))) := by
  show jt_T 9 (0, [(0, .inr (.inr (2, j, 0))), (1, .inl (x))], [], h) _
  refine jt_go jm_m9 0 2 (f' := (3, [(0, .inr (.inr (2, j, 0))), (1, .inl (x))], [.inl (nI 9), .inl (x)], h)) (P := True) rfl trivial ?_
  refine jt_iceq jm_m9 2 (tgt := 14) (nxt := 6) rfl rfl rfl (fun c3 => ?_) (fun c3 => ?_)
  · refine jt_go jm_m9 7 2 (f' := (19, [(0, .inr (.inr (2, j, 0))), (1, .inl (x))], [.inl (nI 1)], h)) (P := True) rfl trivial ?_
    refine jt_zret jm_m9 10 rfl (Or.inr rfl) ?_
    exact ⟨jt_lb1 (Or.inl c3), rfl⟩
  · refine jt_go jm_m9 3 2 (f' := (8, [(0, .inr (.inr (2, j, 0))), (1, .inl (x))], [.inl (x), .inr (.inr (2, j, 0))], h)) (P := True) rfl trivial ?_
    refine jt_callp (w := .inl (jm_b (nI 0 ≤ x ∧ x < nI (g 1)))) jm_m9 5 (mi' := 8) (as := [.inr (.inr (2, j, 0)), .inl (x)]) (rest := []) (nxt := 11) rfl rfl jm_m8 rfl rfl (ta_hasMan R W) ?_
    refine jt_ifbeq jm_m9 6 (tgt := 18) (nxt := 14) rfl rfl rfl (fun c11 => ?_) (fun c11 => ?_)
    · refine jt_go jm_m9 9 1 (f' := (19, [(0, .inr (.inr (2, j, 0))), (1, .inl (x))], [.inl (nI 0)], h)) (P := True) rfl trivial ?_
      refine jt_zret jm_m9 10 rfl (Or.inl rfl) ?_
      exact ⟨jt_lb0 (fun z => z.elim c3 c11), rfl⟩
    · refine jt_go jm_m9 7 2 (f' := (19, [(0, .inr (.inr (2, j, 0))), (1, .inl (x))], [.inl (nI 1)], h)) (P := True) rfl trivial ?_
      refine jt_zret jm_m9 10 rfl (Or.inr rfl) ?_
      exact ⟨jt_lb1 (Or.inr c11), rfl⟩
set_option maxHeartbeats 4000000 in
set_option maxRecDepth 20000 in
theorem ta_hasPassed {h : jm_M} {j : Nat} {g : Nat → Nat} (R : jf_rel h j g) (W : jw g) {p : Nat} (hp : p < 6) : jt_Pu 10 [.inr (.inr (2, j, 0)), .inl (nI p)] h (.inl (jm_b (g (67 + 2 * p) = 1))) := by
  have bp := jw_pas W hp
  have bb := jw_pb W
  show jt_T 10 (0, [(0, .inr (.inr (2, j, 0))), (1, .inl (nI p))], [], h) _
  refine jt_go jm_m10 0 2 (f' := (4, [(0, .inr (.inr (2, j, 0))), (1, .inl (nI p))], [.inl (h (2, j, 0) 13)], h)) (P := True) rfl trivial ?_
  refine jt_ti (show h (2, j, 0) 13 = nI (sp_pb g) from jf_pass R) ?_
  have bq1 := jw_pb W
  refine jt_go jm_m10 2 4 (f' := (8, [(0, .inr (.inr (2, j, 0))), (1, .inl (nI p))], [.inl (((nI (sp_pb g)) >>> ((nI p) &&& 31)) &&& (nI 1))], h)) (P := True) rfl trivial ?_
  refine jt_ti (show ((nI (sp_pb g)) >>> ((nI p) &&& 31)) &&& (nI 1) = nI (g (67 + 2 * p)) from by rw [jx_bit _ bb _ hp, jx_pbit W hp]) ?_
  refine jt_go jm_m10 6 1 (f' := (9, [(0, .inr (.inr (2, j, 0))), (1, .inl (nI p))], [.inl (nI 1), .inl (nI (g (67 + 2 * p)))], h)) (P := True) rfl trivial ?_
  refine jt_nicne jm_m10 7 (a := g (67 + 2 * p)) (b := 1) (by omega) (by omega) (tgt := 16) (nxt := 12) rfl rfl rfl (fun c9 => ?_) (fun c9 => ?_)
  · refine jt_go jm_m10 10 1 (f' := (17, [(0, .inr (.inr (2, j, 0))), (1, .inl (nI p))], [.inl (nI 0)], h)) (P := True) rfl trivial ?_
    refine jt_zret jm_m10 11 rfl (Or.inl rfl) ?_
    exact ⟨jt_lb0 (c9), rfl⟩
  · refine jt_go jm_m10 8 2 (f' := (17, [(0, .inr (.inr (2, j, 0))), (1, .inl (nI p))], [.inl (nI 1)], h)) (P := True) rfl trivial ?_
    refine jt_zret jm_m10 11 rfl (Or.inr rfl) ?_
    exact ⟨jt_lb1 (c9), rfl⟩
set_option maxHeartbeats 4000000 in
set_option maxRecDepth 20000 in
theorem ta_hasCrossed {h : jm_M} {j S p : Nat} (hS : S < 64) (e : h (2, j, 0) 14 = nI S) (hp : p < 6) : jt_Pu 11 [.inr (.inr (2, j, 0)), .inl (nI p)] h (.inl (jm_b (S / 2 ^ p % 2 = 1))) := by
  show jt_T 11 (0, [(0, .inr (.inr (2, j, 0))), (1, .inl (nI p))], [], h) _
  refine jt_go jm_m11 0 2 (f' := (4, [(0, .inr (.inr (2, j, 0))), (1, .inl (nI p))], [.inl (h (2, j, 0) 14)], h)) (P := True) rfl trivial ?_
  refine jt_ti (show h (2, j, 0) 14 = nI S from e) ?_
  refine jt_go jm_m11 2 4 (f' := (8, [(0, .inr (.inr (2, j, 0))), (1, .inl (nI p))], [.inl (((nI S) >>> ((nI p) &&& 31)) &&& (nI 1))], h)) (P := True) rfl trivial ?_
  refine jt_ti (show ((nI S) >>> ((nI p) &&& 31)) &&& (nI 1) = nI (S / 2 ^ p % 2) from jx_bit _ hS _ hp) ?_
  refine jt_go jm_m11 6 1 (f' := (9, [(0, .inr (.inr (2, j, 0))), (1, .inl (nI p))], [.inl (nI 1), .inl (nI (S / 2 ^ p % 2))], h)) (P := True) rfl trivial ?_
  refine jt_nicne jm_m11 7 (a := S / 2 ^ p % 2) (b := 1) (by omega) (by omega) (tgt := 16) (nxt := 12) rfl rfl rfl (fun c9 => ?_) (fun c9 => ?_)
  · refine jt_go jm_m11 10 1 (f' := (17, [(0, .inr (.inr (2, j, 0))), (1, .inl (nI p))], [.inl (nI 0)], h)) (P := True) rfl trivial ?_
    refine jt_zret jm_m11 11 rfl (Or.inl rfl) ?_
    exact ⟨jt_lb0 (c9), rfl⟩
  · refine jt_go jm_m11 8 2 (f' := (17, [(0, .inr (.inr (2, j, 0))), (1, .inl (nI p))], [.inl (nI 1)], h)) (P := True) rfl trivial ?_
    refine jt_zret jm_m11 11 rfl (Or.inr rfl) ?_
    exact ⟨jt_lb1 (c9), rfl⟩
set_option maxHeartbeats 4000000 in
set_option maxRecDepth 20000 in
theorem ta_hasDays {h : jm_M} {j : Nat} {g : Nat → Nat} (R : jf_rel h j g) (W : jw g) {x : Int32} : jt_Pu 12 [.inr (.inr (2, j, 0)), .inl (x)] h (.inl (jm_b (¬ nI 999 < nI (g 3) + (nI (g 2) + x) / nI 24))) := by
  show jt_T 12 (0, [(0, .inr (.inr (2, j, 0))), (1, .inl (x))], [], h) _
  refine jt_go jm_m12 0 2 (f' := (4, [(0, .inr (.inr (2, j, 0))), (1, .inl (x))], [.inl (h (2, j, 0) 12)], h)) (P := True) rfl trivial ?_
  refine jt_ti (show h (2, j, 0) 12 = nI (g 3) from jf_day R) ?_
  refine jt_go jm_m12 2 2 (f' := (8, [(0, .inr (.inr (2, j, 0))), (1, .inl (x))], [.inl (h (2, j, 0) 11), .inl (nI (g 3))], h)) (P := True) rfl trivial ?_
  refine jt_ti (show h (2, j, 0) 11 = nI (g 2) from jf_hour R) ?_
  have bq1 := jw_t W
  refine jt_go jm_m12 4 6 (f' := (17, [(0, .inr (.inr (2, j, 0))), (1, .inl (x))], [.inl (nI 999), .inl ((nI (g 3)) + (((nI (g 2)) + x) / (nI 24)))], h)) (P := ¬ (nI 24) = 0 ∧ True) rfl ⟨(by decide), trivial⟩ ?_
  refine jt_icgt jm_m12 10 (tgt := 24) (nxt := 20) rfl rfl rfl (fun c17 => ?_) (fun c17 => ?_)
  · refine jt_go jm_m12 13 1 (f' := (25, [(0, .inr (.inr (2, j, 0))), (1, .inl (x))], [.inl (nI 0)], h)) (P := True) rfl trivial ?_
    refine jt_zret jm_m12 14 rfl (Or.inl rfl) ?_
    exact ⟨jt_lb0 (not_not_intro c17), rfl⟩
  · refine jt_go jm_m12 11 2 (f' := (25, [(0, .inr (.inr (2, j, 0))), (1, .inl (x))], [.inl (nI 1)], h)) (P := True) rfl trivial ?_
    refine jt_zret jm_m12 14 rfl (Or.inr rfl) ?_
    exact ⟨jt_lb1 (c17), rfl⟩
set_option maxHeartbeats 4000000 in
set_option maxRecDepth 20000 in
theorem ta_pace0 {h : jm_M} {k f t : Nat} (hf : f < 10) (ht : t < 24) : jt_Pu 1 [.inr (.inr (1, k, 0)), .inl (nI f), .inl (nI t)] h (.inl (nI (1 + f / 4))) := by
  show jt_T 1 (0, [(0, .inr (.inr (1, k, 0))), (1, .inl (nI f)), (2, .inl (nI t))], [], h) _
  refine jt_go jm_m1 0 4 (f' := (4, [(0, .inr (.inr (1, k, 0))), (1, .inl (nI f)), (2, .inl (nI t))], [.inl ((nI f) / (nI 4)), .inl (nI 1)], h)) (P := ¬ (nI 4) = 0 ∧ True) rfl ⟨(by decide), trivial⟩ ?_
  refine jt_ti (show (nI f) / (nI 4) = nI (f / 4) from jx_d4 f hf) ?_
  refine jt_go jm_m1 4 1 (f' := (5, [(0, .inr (.inr (1, k, 0))), (1, .inl (nI f)), (2, .inl (nI t))], [.inl ((nI 1) + (nI (f / 4)))], h)) (P := True) rfl trivial ?_
  refine jt_ti (show (nI 1) + (nI (f / 4)) = nI (1 + f / 4) from nI_add _ _) ?_
  refine jt_iret jm_m1 5 rfl ?_
  exact ⟨rfl, rfl⟩
set_option maxHeartbeats 4000000 in
set_option maxRecDepth 20000 in
theorem ta_grow0 {h : jm_M} {k f t : Nat} (hf : f < 10) (ht : t < 24) : jt_Pu 2 [.inr (.inr (1, k, 0))] h (.inl (nI 1)) := by
  show jt_T 2 (0, [(0, .inr (.inr (1, k, 0)))], [], h) _
  refine jt_go jm_m2 0 1 (f' := (1, [(0, .inr (.inr (1, k, 0)))], [.inl (nI 1)], h)) (P := True) rfl trivial ?_
  refine jt_iret jm_m2 1 rfl ?_
  exact ⟨rfl, rfl⟩
set_option maxHeartbeats 4000000 in
set_option maxRecDepth 20000 in
theorem ta_grow3 {h : jm_M} {k f t : Nat} (hf : f < 10) (ht : t < 24) : jt_Pu 71 [.inr (.inr (1, k, 0))] h (.inl (nI 2)) := by
  show jt_T 71 (0, [(0, .inr (.inr (1, k, 0)))], [], h) _
  refine jt_go jm_m71 0 1 (f' := (1, [(0, .inr (.inr (1, k, 0)))], [.inl (nI 2)], h)) (P := True) rfl trivial ?_
  refine jt_iret jm_m71 1 rfl ?_
  exact ⟨rfl, rfl⟩
set_option maxHeartbeats 4000000 in
set_option maxRecDepth 20000 in
theorem ta_grow5 {h : jm_M} {k f t : Nat} (hf : f < 10) (ht : t < 24) : jt_Pu 50 [.inr (.inr (1, k, 0))] h (.inl (nI 0)) := by
  show jt_T 50 (0, [(0, .inr (.inr (1, k, 0)))], [], h) _
  refine jt_go jm_m50 0 1 (f' := (1, [(0, .inr (.inr (1, k, 0)))], [.inl (nI 0)], h)) (P := True) rfl trivial ?_
  refine jt_iret jm_m50 1 rfl ?_
  exact ⟨rfl, rfl⟩
set_option maxHeartbeats 4000000 in
set_option maxRecDepth 20000 in
theorem ta_pace4 {h : jm_M} {k f t : Nat} (hf : f < 10) (ht : t < 24) : jt_Pu 35 [.inr (.inr (1, k, 0)), .inl (nI f), .inl (nI t)] h (.inl (nI 3)) := by
  show jt_T 35 (0, [(0, .inr (.inr (1, k, 0))), (1, .inl (nI f)), (2, .inl (nI t))], [], h) _
  refine jt_go jm_m35 0 1 (f' := (1, [(0, .inr (.inr (1, k, 0))), (1, .inl (nI f)), (2, .inl (nI t))], [.inl (nI 3)], h)) (P := True) rfl trivial ?_
  refine jt_iret jm_m35 1 rfl ?_
  exact ⟨rfl, rfl⟩
set_option maxHeartbeats 4000000 in
set_option maxRecDepth 20000 in
theorem ta_pace7 {h : jm_M} {k f t : Nat} (hf : f < 10) (ht : t < 24) : jt_Pu 39 [.inr (.inr (1, k, 0)), .inl (nI f), .inl (nI t)] h (.inl (nI (if t % 3 = 0 then 1 else 0))) := by
  show jt_T 39 (0, [(0, .inr (.inr (1, k, 0))), (1, .inl (nI f)), (2, .inl (nI t))], [], h) _
  refine jt_go jm_m39 0 3 (f' := (3, [(0, .inr (.inr (1, k, 0))), (1, .inl (nI f)), (2, .inl (nI t))], [.inl ((nI t) - (nI t) / (nI 3) * (nI 3))], h)) (P := ¬ (nI 3) = 0 ∧ True) rfl ⟨(by decide), trivial⟩ ?_
  refine jt_ti (show (nI t) - (nI t) / (nI 3) * (nI 3) = nI (t % 3) from jx_r3 t ht) ?_
  refine jt_nifne jm_m39 3 (by omega) (tgt := 10) (nxt := 6) rfl rfl rfl (fun c3 => ?_) (fun c3 => ?_)
  · refine jt_go jm_m39 6 1 (f' := (11, [(0, .inr (.inr (1, k, 0))), (1, .inl (nI f)), (2, .inl (nI t))], [.inl (nI 0)], h)) (P := True) rfl trivial ?_
    refine jt_iret jm_m39 7 rfl ?_
    exact ⟨jt_ln (by rw [if_neg c3]), rfl⟩
  · refine jt_go jm_m39 4 2 (f' := (11, [(0, .inr (.inr (1, k, 0))), (1, .inl (nI f)), (2, .inl (nI t))], [.inl (nI 1)], h)) (P := True) rfl trivial ?_
    refine jt_iret jm_m39 7 rfl ?_
    exact ⟨jt_ln (by rw [if_pos c3]), rfl⟩
set_option maxHeartbeats 4000000 in
set_option maxRecDepth 20000 in
theorem ta_pace2_2 {h : jm_M} {f t : Nat} (hf : f < 10) (ht : t < 24) : jt_Pu 67 [.inr (.inr (1, 2, 0)), .inl (nI f), .inl (nI t)] h (.inl (nI (1 + f / 4 + 1))) := by
  show jt_T 67 (0, [(0, .inr (.inr (1, 2, 0))), (1, .inl (nI f)), (2, .inl (nI t))], [], h) _
  refine jt_go jm_m67 0 3 (f' := (3, [(0, .inr (.inr (1, 2, 0))), (1, .inl (nI f)), (2, .inl (nI t))], [.inl (nI t), .inl (nI f), .inr (.inr (1, 2, 0))], h)) (P := True) rfl trivial ?_
  refine jt_callp (w := .inl (nI (1 + f / 4))) jm_m67 3 (mi' := 1) (as := [.inr (.inr (1, 2, 0)), .inl (nI f), .inl (nI t)]) (rest := []) (nxt := 6) rfl rfl jm_m1 rfl rfl (ta_pace0 hf ht) ?_
  refine jt_go jm_m67 4 2 (f' := (8, [(0, .inr (.inr (1, 2, 0))), (1, .inl (nI f)), (2, .inl (nI t))], [.inl ((nI (1 + f / 4)) + (nI 1))], h)) (P := True) rfl trivial ?_
  refine jt_ti (show (nI (1 + f / 4)) + (nI 1) = nI (1 + f / 4 + 1) from nI_add _ _) ?_
  refine jt_iret jm_m67 6 rfl ?_
  exact ⟨rfl, rfl⟩
set_option maxHeartbeats 4000000 in
set_option maxRecDepth 20000 in
theorem ta_pace2_6 {h : jm_M} {f t : Nat} (hf : f < 10) (ht : t < 24) : jt_Pu 67 [.inr (.inr (1, 6, 0)), .inl (nI f), .inl (nI t)] h (.inl (nI (1 + f / 4 + 1))) := by
  show jt_T 67 (0, [(0, .inr (.inr (1, 6, 0))), (1, .inl (nI f)), (2, .inl (nI t))], [], h) _
  refine jt_go jm_m67 0 3 (f' := (3, [(0, .inr (.inr (1, 6, 0))), (1, .inl (nI f)), (2, .inl (nI t))], [.inl (nI t), .inl (nI f), .inr (.inr (1, 6, 0))], h)) (P := True) rfl trivial ?_
  refine jt_callp (w := .inl (nI (1 + f / 4))) jm_m67 3 (mi' := 1) (as := [.inr (.inr (1, 6, 0)), .inl (nI f), .inl (nI t)]) (rest := []) (nxt := 6) rfl rfl jm_m1 rfl rfl (ta_pace0 hf ht) ?_
  refine jt_go jm_m67 4 2 (f' := (8, [(0, .inr (.inr (1, 6, 0))), (1, .inl (nI f)), (2, .inl (nI t))], [.inl ((nI (1 + f / 4)) + (nI 1))], h)) (P := True) rfl trivial ?_
  refine jt_ti (show (nI (1 + f / 4)) + (nI 1) = nI (1 + f / 4 + 1) from nI_add _ _) ?_
  refine jt_iret jm_m67 6 rfl ?_
  exact ⟨rfl, rfl⟩
set_option maxHeartbeats 4000000 in
set_option maxRecDepth 20000 in
theorem ta_pace6 {h : jm_M} {f t : Nat} (hf : f < 10) (ht : t < 24) : jt_Pu 53 [.inr (.inr (1, 6, 0)), .inl (nI f), .inl (nI t)] h (.inl (nI (2 * (1 + f / 4 + 1)))) := by
  show jt_T 53 (0, [(0, .inr (.inr (1, 6, 0))), (1, .inl (nI f)), (2, .inl (nI t))], [], h) _
  refine jt_go jm_m53 0 4 (f' := (4, [(0, .inr (.inr (1, 6, 0))), (1, .inl (nI f)), (2, .inl (nI t))], [.inl (nI t), .inl (nI f), .inr (.inr (1, 6, 0)), .inl (nI 2)], h)) (P := True) rfl trivial ?_
  refine jt_callp (w := .inl (nI (1 + f / 4 + 1))) jm_m53 4 (mi' := 67) (as := [.inr (.inr (1, 6, 0)), .inl (nI f), .inl (nI t)]) (rest := [.inl (nI 2)]) (nxt := 7) rfl rfl jm_m67 rfl rfl (ta_pace2_6 hf ht) ?_
  refine jt_go jm_m53 5 1 (f' := (8, [(0, .inr (.inr (1, 6, 0))), (1, .inl (nI f)), (2, .inl (nI t))], [.inl ((nI 2) * (nI (1 + f / 4 + 1)))], h)) (P := True) rfl trivial ?_
  refine jt_ti (show (nI 2) * (nI (1 + f / 4 + 1)) = nI (2 * (1 + f / 4 + 1)) from nI_mul _ _) ?_
  refine jt_iret jm_m53 6 rfl ?_
  exact ⟨rfl, rfl⟩
set_option maxHeartbeats 4000000 in
set_option maxRecDepth 20000 in
theorem ta_skin0 {h : jm_M} {k f : Nat} (hf : f ≤ 99) : jt_Pu 3 [.inr (.inr (1, k, 0)), .inl (nI f)] h (.inl (jm_b (f < 48))) := by
  show jt_T 3 (0, [(0, .inr (.inr (1, k, 0))), (1, .inl (nI f))], [], h) _
  refine jt_go jm_m3 0 2 (f' := (3, [(0, .inr (.inr (1, k, 0))), (1, .inl (nI f))], [.inl (nI 48), .inl (nI f)], h)) (P := True) rfl trivial ?_
  refine jt_nicge jm_m3 2 (a := f) (b := 48) (by omega) (by omega) (tgt := 10) (nxt := 6) rfl rfl rfl (fun c3 => ?_) (fun c3 => ?_)
  · refine jt_go jm_m3 5 1 (f' := (11, [(0, .inr (.inr (1, k, 0))), (1, .inl (nI f))], [.inl (nI 0)], h)) (P := True) rfl trivial ?_
    refine jt_zret jm_m3 6 rfl (Or.inl rfl) ?_
    exact ⟨jt_lb0 (Nat.not_lt.mpr c3), rfl⟩
  · refine jt_go jm_m3 3 2 (f' := (11, [(0, .inr (.inr (1, k, 0))), (1, .inl (nI f))], [.inl (nI 1)], h)) (P := True) rfl trivial ?_
    refine jt_zret jm_m3 6 rfl (Or.inr rfl) ?_
    exact ⟨jt_lb1 (c3), rfl⟩
set_option maxHeartbeats 4000000 in
set_option maxRecDepth 20000 in
theorem ta_skin5 {h : jm_M} {k f : Nat} : jt_Pu 51 [.inr (.inr (1, k, 0)), .inl (nI f)] h (.inl (nI 1)) := by
  show jt_T 51 (0, [(0, .inr (.inr (1, k, 0))), (1, .inl (nI f))], [], h) _
  refine jt_go jm_m51 0 1 (f' := (1, [(0, .inr (.inr (1, k, 0))), (1, .inl (nI f))], [.inl (nI 1)], h)) (P := True) rfl trivial ?_
  refine jt_zret jm_m51 1 rfl (Or.inr rfl) ?_
  exact ⟨rfl, rfl⟩
end
section
/-! PURE: what an hour keeps. -/
theorem jw_up_hour {g : Nat → Nat} (W : jw g) {v : Nat} (hv : v < 24) : jw (sp_up g 2 v) := by
  obtain ⟨a0, a1, a2, a3, a4, a5, a6, a7, a8, a9, a10, a11, a12, a13⟩ := W
  refine ⟨?_, ?_, ?_, ?_, ?_, ?_, ?_, ?_, ?_, ?_, ?_, ?_, ?_, ?_⟩
  · rw [sp_up_ne (by omega)]; exact a0
  · rw [sp_up_ne (by omega)]; exact a1
  · rw [sp_up_eq rfl]; omega
  · intro p hp; rw [sp_up_ne (by omega)]; exact a3 p hp
  · intro p hp; rw [sp_up_ne (by omega)]; exact a4 p hp
  · intro p hp; rw [sp_up_ne (by omega)]; exact a5 p hp
  · intro p hp; rw [sp_up_ne (by omega)]; exact a6 p hp
  · intro p hp; rw [sp_up_ne (by omega)]; exact a7 p hp
  · intro p hp; rw [sp_up_ne (by omega)]; exact a8 p hp
  · intro p hp; rw [sp_up_ne (by omega)]; exact a9 p hp
  · intro p hp; rw [sp_up_ne (by omega)]; exact a10 p hp
  · intro p hp; rw [sp_up_ne (by omega)]; exact a11 p hp
  · intro p hp
    rw [sp_up_ne (by omega)] at hp
    have a0 := a0
    rw [sp_up_ne (by omega), sp_up_ne (by omega)]; exact a12 p hp
  · intro p hp hm
    rw [sp_up_ne (by omega)] at hm
    rw [sp_up_ne (by omega)]; exact a13 p hp hm
theorem jw_up_day {g : Nat → Nat} (W : jw g) {v : Nat}  : jw (sp_up g 3 v) := by
  obtain ⟨a0, a1, a2, a3, a4, a5, a6, a7, a8, a9, a10, a11, a12, a13⟩ := W
  refine ⟨?_, ?_, ?_, ?_, ?_, ?_, ?_, ?_, ?_, ?_, ?_, ?_, ?_, ?_⟩
  · rw [sp_up_ne (by omega)]; exact a0
  · rw [sp_up_ne (by omega)]; exact a1
  · rw [sp_up_ne (by omega)]; exact a2
  · intro p hp; rw [sp_up_ne (by omega)]; exact a3 p hp
  · intro p hp; rw [sp_up_ne (by omega)]; exact a4 p hp
  · intro p hp; rw [sp_up_ne (by omega)]; exact a5 p hp
  · intro p hp; rw [sp_up_ne (by omega)]; exact a6 p hp
  · intro p hp; rw [sp_up_ne (by omega)]; exact a7 p hp
  · intro p hp; rw [sp_up_ne (by omega)]; exact a8 p hp
  · intro p hp; rw [sp_up_ne (by omega)]; exact a9 p hp
  · intro p hp; rw [sp_up_ne (by omega)]; exact a10 p hp
  · intro p hp; rw [sp_up_ne (by omega)]; exact a11 p hp
  · intro p hp
    rw [sp_up_ne (by omega)] at hp
    have a0 := a0
    rw [sp_up_ne (by omega), sp_up_ne (by omega)]; exact a12 p hp
  · intro p hp hm
    rw [sp_up_ne (by omega)] at hm
    rw [sp_up_ne (by omega)]; exact a13 p hp hm
theorem jw_up_fish {g : Nat → Nat} (W : jw g) {v c : Nat} (hc : c < 16) (hv : v ≤ 9) : jw (sp_up g (4 + c) v) := by
  obtain ⟨a0, a1, a2, a3, a4, a5, a6, a7, a8, a9, a10, a11, a12, a13⟩ := W
  refine ⟨?_, ?_, ?_, ?_, ?_, ?_, ?_, ?_, ?_, ?_, ?_, ?_, ?_, ?_⟩
  · rw [sp_up_ne (by omega)]; exact a0
  · rw [sp_up_ne (by omega)]; exact a1
  · rw [sp_up_ne (by omega)]; exact a2
  · intro p hp
    by_cases e : p = c
    · rw [sp_up_eq (by omega)]; omega
    · rw [sp_up_ne (by omega)]; exact a3 p hp
  · intro p hp; rw [sp_up_ne (by omega)]; exact a4 p hp
  · intro p hp; rw [sp_up_ne (by omega)]; exact a5 p hp
  · intro p hp; rw [sp_up_ne (by omega)]; exact a6 p hp
  · intro p hp; rw [sp_up_ne (by omega)]; exact a7 p hp
  · intro p hp; rw [sp_up_ne (by omega)]; exact a8 p hp
  · intro p hp; rw [sp_up_ne (by omega)]; exact a9 p hp
  · intro p hp; rw [sp_up_ne (by omega)]; exact a10 p hp
  · intro p hp; rw [sp_up_ne (by omega)]; exact a11 p hp
  · intro p hp
    rw [sp_up_ne (by omega)] at hp
    have a0 := a0
    rw [sp_up_ne (by omega), sp_up_ne (by omega)]; exact a12 p hp
  · intro p hp hm
    rw [sp_up_ne (by omega)] at hm
    rw [sp_up_ne (by omega)]; exact a13 p hp hm
theorem jw_up_mice {g : Nat → Nat} (W : jw g) {v c : Nat} (hc : c < 16) (hv : v ≤ 9) : jw (sp_up g (20 + c) v) := by
  obtain ⟨a0, a1, a2, a3, a4, a5, a6, a7, a8, a9, a10, a11, a12, a13⟩ := W
  refine ⟨?_, ?_, ?_, ?_, ?_, ?_, ?_, ?_, ?_, ?_, ?_, ?_, ?_, ?_⟩
  · rw [sp_up_ne (by omega)]; exact a0
  · rw [sp_up_ne (by omega)]; exact a1
  · rw [sp_up_ne (by omega)]; exact a2
  · intro p hp; rw [sp_up_ne (by omega)]; exact a3 p hp
  · intro p hp
    by_cases e : p = c
    · rw [sp_up_eq (by omega)]; omega
    · rw [sp_up_ne (by omega)]; exact a4 p hp
  · intro p hp; rw [sp_up_ne (by omega)]; exact a5 p hp
  · intro p hp; rw [sp_up_ne (by omega)]; exact a6 p hp
  · intro p hp; rw [sp_up_ne (by omega)]; exact a7 p hp
  · intro p hp; rw [sp_up_ne (by omega)]; exact a8 p hp
  · intro p hp; rw [sp_up_ne (by omega)]; exact a9 p hp
  · intro p hp; rw [sp_up_ne (by omega)]; exact a10 p hp
  · intro p hp; rw [sp_up_ne (by omega)]; exact a11 p hp
  · intro p hp
    rw [sp_up_ne (by omega)] at hp
    have a0 := a0
    rw [sp_up_ne (by omega), sp_up_ne (by omega)]; exact a12 p hp
  · intro p hp hm
    rw [sp_up_ne (by omega)] at hm
    rw [sp_up_ne (by omega)]; exact a13 p hp hm
theorem jw_up_kind {g : Nat → Nat} (W : jw g) {v c : Nat} (hc : c < 6) (hv : v < 8) : jw (sp_up g (36 + 5 * c) v) := by
  obtain ⟨a0, a1, a2, a3, a4, a5, a6, a7, a8, a9, a10, a11, a12, a13⟩ := W
  refine ⟨?_, ?_, ?_, ?_, ?_, ?_, ?_, ?_, ?_, ?_, ?_, ?_, ?_, ?_⟩
  · rw [sp_up_ne (by omega)]; exact a0
  · rw [sp_up_ne (by omega)]; exact a1
  · rw [sp_up_ne (by omega)]; exact a2
  · intro p hp; rw [sp_up_ne (by omega)]; exact a3 p hp
  · intro p hp; rw [sp_up_ne (by omega)]; exact a4 p hp
  · intro p hp
    by_cases e : p = c
    · rw [sp_up_eq (by omega)]; omega
    · rw [sp_up_ne (by omega)]; exact a5 p hp
  · intro p hp; rw [sp_up_ne (by omega)]; exact a6 p hp
  · intro p hp; rw [sp_up_ne (by omega)]; exact a7 p hp
  · intro p hp; rw [sp_up_ne (by omega)]; exact a8 p hp
  · intro p hp; rw [sp_up_ne (by omega)]; exact a9 p hp
  · intro p hp; rw [sp_up_ne (by omega)]; exact a10 p hp
  · intro p hp; rw [sp_up_ne (by omega)]; exact a11 p hp
  · intro p hp
    rw [sp_up_ne (by omega)] at hp
    have a0 := a0
    rw [sp_up_ne (by omega), sp_up_ne (by omega)]; exact a12 p hp
  · intro p hp hm
    rw [sp_up_ne (by omega)] at hm
    rw [sp_up_ne (by omega)]; exact a13 p hp hm
theorem jw_up_fig {g : Nat → Nat} (W : jw g) {v c : Nat} (hc : c < 6) (hv : v < 10) : jw (sp_up g (37 + 5 * c) v) := by
  obtain ⟨a0, a1, a2, a3, a4, a5, a6, a7, a8, a9, a10, a11, a12, a13⟩ := W
  refine ⟨?_, ?_, ?_, ?_, ?_, ?_, ?_, ?_, ?_, ?_, ?_, ?_, ?_, ?_⟩
  · rw [sp_up_ne (by omega)]; exact a0
  · rw [sp_up_ne (by omega)]; exact a1
  · rw [sp_up_ne (by omega)]; exact a2
  · intro p hp; rw [sp_up_ne (by omega)]; exact a3 p hp
  · intro p hp; rw [sp_up_ne (by omega)]; exact a4 p hp
  · intro p hp; rw [sp_up_ne (by omega)]; exact a5 p hp
  · intro p hp
    by_cases e : p = c
    · rw [sp_up_eq (by omega)]; omega
    · rw [sp_up_ne (by omega)]; exact a6 p hp
  · intro p hp; rw [sp_up_ne (by omega)]; exact a7 p hp
  · intro p hp; rw [sp_up_ne (by omega)]; exact a8 p hp
  · intro p hp; rw [sp_up_ne (by omega)]; exact a9 p hp
  · intro p hp; rw [sp_up_ne (by omega)]; exact a10 p hp
  · intro p hp; rw [sp_up_ne (by omega)]; exact a11 p hp
  · intro p hp
    rw [sp_up_ne (by omega)] at hp
    have a0 := a0
    rw [sp_up_ne (by omega), sp_up_ne (by omega)]; exact a12 p hp
  · intro p hp hm
    rw [sp_up_ne (by omega)] at hm
    rw [sp_up_ne (by omega)]; exact a13 p hp hm
theorem jw_up_at {g : Nat → Nat} (W : jw g) {v c : Nat} (hc : c < 6) (hv : v < 16) : jw (sp_up g (38 + 5 * c) v) := by
  obtain ⟨a0, a1, a2, a3, a4, a5, a6, a7, a8, a9, a10, a11, a12, a13⟩ := W
  refine ⟨?_, ?_, ?_, ?_, ?_, ?_, ?_, ?_, ?_, ?_, ?_, ?_, ?_, ?_⟩
  · rw [sp_up_ne (by omega)]; exact a0
  · rw [sp_up_ne (by omega)]; exact a1
  · rw [sp_up_ne (by omega)]; exact a2
  · intro p hp; rw [sp_up_ne (by omega)]; exact a3 p hp
  · intro p hp; rw [sp_up_ne (by omega)]; exact a4 p hp
  · intro p hp; rw [sp_up_ne (by omega)]; exact a5 p hp
  · intro p hp; rw [sp_up_ne (by omega)]; exact a6 p hp
  · intro p hp
    by_cases e : p = c
    · rw [sp_up_eq (by omega)]; omega
    · rw [sp_up_ne (by omega)]; exact a7 p hp
  · intro p hp; rw [sp_up_ne (by omega)]; exact a8 p hp
  · intro p hp; rw [sp_up_ne (by omega)]; exact a9 p hp
  · intro p hp; rw [sp_up_ne (by omega)]; exact a10 p hp
  · intro p hp; rw [sp_up_ne (by omega)]; exact a11 p hp
  · intro p hp
    rw [sp_up_ne (by omega)] at hp
    have a0 := a0
    rw [sp_up_ne (by omega), sp_up_ne (by omega)]; exact a12 p hp
  · intro p hp hm
    rw [sp_up_ne (by omega)] at hm
    rw [sp_up_ne (by omega)]; exact a13 p hp hm
theorem jw_up_hair {g : Nat → Nat} (W : jw g) {v c : Nat} (hc : c < 6) (hv : v ≤ 99) : jw (sp_up g (39 + 5 * c) v) := by
  obtain ⟨a0, a1, a2, a3, a4, a5, a6, a7, a8, a9, a10, a11, a12, a13⟩ := W
  refine ⟨?_, ?_, ?_, ?_, ?_, ?_, ?_, ?_, ?_, ?_, ?_, ?_, ?_, ?_⟩
  · rw [sp_up_ne (by omega)]; exact a0
  · rw [sp_up_ne (by omega)]; exact a1
  · rw [sp_up_ne (by omega)]; exact a2
  · intro p hp; rw [sp_up_ne (by omega)]; exact a3 p hp
  · intro p hp; rw [sp_up_ne (by omega)]; exact a4 p hp
  · intro p hp; rw [sp_up_ne (by omega)]; exact a5 p hp
  · intro p hp; rw [sp_up_ne (by omega)]; exact a6 p hp
  · intro p hp; rw [sp_up_ne (by omega)]; exact a7 p hp
  · intro p hp
    by_cases e : p = c
    · rw [sp_up_eq (by omega)]; omega
    · rw [sp_up_ne (by omega)]; exact a8 p hp
  · intro p hp; rw [sp_up_ne (by omega)]; exact a9 p hp
  · intro p hp; rw [sp_up_ne (by omega)]; exact a10 p hp
  · intro p hp; rw [sp_up_ne (by omega)]; exact a11 p hp
  · intro p hp
    rw [sp_up_ne (by omega)] at hp
    have a0 := a0
    rw [sp_up_ne (by omega), sp_up_ne (by omega)]; exact a12 p hp
  · intro p hp hm
    rw [sp_up_ne (by omega)] at hm
    rw [sp_up_ne (by omega)]; exact a13 p hp hm
theorem jw_up_name {g : Nat → Nat} (W : jw g) {v c : Nat} (hc : c < 6) (hv : v = 9 ∨ v < g 1) : jw (sp_up g (40 + 5 * c) v) := by
  obtain ⟨a0, a1, a2, a3, a4, a5, a6, a7, a8, a9, a10, a11, a12, a13⟩ := W
  refine ⟨?_, ?_, ?_, ?_, ?_, ?_, ?_, ?_, ?_, ?_, ?_, ?_, ?_, ?_⟩
  · rw [sp_up_ne (by omega)]; exact a0
  · rw [sp_up_ne (by omega)]; exact a1
  · rw [sp_up_ne (by omega)]; exact a2
  · intro p hp; rw [sp_up_ne (by omega)]; exact a3 p hp
  · intro p hp; rw [sp_up_ne (by omega)]; exact a4 p hp
  · intro p hp; rw [sp_up_ne (by omega)]; exact a5 p hp
  · intro p hp; rw [sp_up_ne (by omega)]; exact a6 p hp
  · intro p hp; rw [sp_up_ne (by omega)]; exact a7 p hp
  · intro p hp; rw [sp_up_ne (by omega)]; exact a8 p hp
  · intro p hp
    by_cases e : p = c
    · rw [sp_up_eq (by omega)]; omega
    · rw [sp_up_ne (by omega)]; exact a9 p hp
  · intro p hp; rw [sp_up_ne (by omega)]; exact a10 p hp
  · intro p hp; rw [sp_up_ne (by omega)]; exact a11 p hp
  · intro p hp
    rw [sp_up_ne (by omega)] at hp
    have a0 := a0
    by_cases e : p = c
    · rw [sp_up_eq (by omega), sp_up_ne (by omega)]; omega
    · rw [sp_up_ne (by omega), sp_up_ne (by omega)]; exact a12 p hp
  · intro p hp hm
    rw [sp_up_ne (by omega)] at hm
    rw [sp_up_ne (by omega)]; exact a13 p hp hm
theorem jw_up_side {g : Nat → Nat} (W : jw g) {v c : Nat} (hc : c < 6) (hv : v ≤ 1) : jw (sp_up g (66 + 2 * c) v) := by
  obtain ⟨a0, a1, a2, a3, a4, a5, a6, a7, a8, a9, a10, a11, a12, a13⟩ := W
  refine ⟨?_, ?_, ?_, ?_, ?_, ?_, ?_, ?_, ?_, ?_, ?_, ?_, ?_, ?_⟩
  · rw [sp_up_ne (by omega)]; exact a0
  · rw [sp_up_ne (by omega)]; exact a1
  · rw [sp_up_ne (by omega)]; exact a2
  · intro p hp; rw [sp_up_ne (by omega)]; exact a3 p hp
  · intro p hp; rw [sp_up_ne (by omega)]; exact a4 p hp
  · intro p hp; rw [sp_up_ne (by omega)]; exact a5 p hp
  · intro p hp; rw [sp_up_ne (by omega)]; exact a6 p hp
  · intro p hp; rw [sp_up_ne (by omega)]; exact a7 p hp
  · intro p hp; rw [sp_up_ne (by omega)]; exact a8 p hp
  · intro p hp; rw [sp_up_ne (by omega)]; exact a9 p hp
  · intro p hp
    by_cases e : p = c
    · rw [sp_up_eq (by omega)]; omega
    · rw [sp_up_ne (by omega)]; exact a10 p hp
  · intro p hp; rw [sp_up_ne (by omega)]; exact a11 p hp
  · intro p hp
    rw [sp_up_ne (by omega)] at hp
    have a0 := a0
    rw [sp_up_ne (by omega), sp_up_ne (by omega)]; exact a12 p hp
  · intro p hp hm
    rw [sp_up_ne (by omega)] at hm
    rw [sp_up_ne (by omega)]; exact a13 p hp hm
theorem jw_up_pas {g : Nat → Nat} (W : jw g) {v c : Nat} (hc : c < 6) (hv : v ≤ 1 ∧ c < g 1) : jw (sp_up g (67 + 2 * c) v) := by
  obtain ⟨a0, a1, a2, a3, a4, a5, a6, a7, a8, a9, a10, a11, a12, a13⟩ := W
  refine ⟨?_, ?_, ?_, ?_, ?_, ?_, ?_, ?_, ?_, ?_, ?_, ?_, ?_, ?_⟩
  · rw [sp_up_ne (by omega)]; exact a0
  · rw [sp_up_ne (by omega)]; exact a1
  · rw [sp_up_ne (by omega)]; exact a2
  · intro p hp; rw [sp_up_ne (by omega)]; exact a3 p hp
  · intro p hp; rw [sp_up_ne (by omega)]; exact a4 p hp
  · intro p hp; rw [sp_up_ne (by omega)]; exact a5 p hp
  · intro p hp; rw [sp_up_ne (by omega)]; exact a6 p hp
  · intro p hp; rw [sp_up_ne (by omega)]; exact a7 p hp
  · intro p hp; rw [sp_up_ne (by omega)]; exact a8 p hp
  · intro p hp; rw [sp_up_ne (by omega)]; exact a9 p hp
  · intro p hp; rw [sp_up_ne (by omega)]; exact a10 p hp
  · intro p hp
    by_cases e : p = c
    · rw [sp_up_eq (by omega)]; omega
    · rw [sp_up_ne (by omega)]; exact a11 p hp
  · intro p hp
    rw [sp_up_ne (by omega)] at hp
    have a0 := a0
    rw [sp_up_ne (by omega), sp_up_ne (by omega)]; exact a12 p hp
  · intro p hp hm
    rw [sp_up_ne (by omega)] at hm
    by_cases e : p = c
    · rw [sp_up_eq (by omega)]; omega
    · rw [sp_up_ne (by omega)]; exact a13 p hp hm
theorem sp_rich_lt (g : Nat → Nat) (o fm : Nat) (hf : fm < 16) : ∀ k, k ≤ 16 → sp_rich g o fm k < 16 := by
  intro k
  induction k with
  | zero => intro _; exact hf
  | succ k ih =>
    intro hk
    unfold sp_rich
    split
    · omega
    · exact ih (by omega)
theorem sp_near_lt (g : Nat → Nat) (c n : Nat) (hc : c < n) : ∀ k, k ≤ n → (sp_near g c k).1 < n ∧ (sp_near g c k).2 ≤ 16 := by
  intro k
  induction k with
  | zero => intro _; exact ⟨hc, Nat.le_refl _⟩
  | succ k ih =>
    intro hk
    have := ih (by omega)
    unfold sp_near
    split
    · rename_i q; exact ⟨by omega, by dsimp only; omega⟩
    · exact this
theorem sp_goalK_lt {g : Nat → Nat} (W : jw g) {c : Nat} (hc : c < g 0) (k : Nat) : sp_goalK g c k < 16 := by
  have hn := jw_n W
  have ha := jw_at W (c := c) (by omega)
  have hr4 := sp_rich_lt g 4 (g (38 + 5 * c)) ha 16 (Nat.le_refl _)
  have hr20 := sp_rich_lt g 20 (g (38 + 5 * c)) ha 16 (Nat.le_refl _)
  have hne := (sp_near_lt g c (g 0) hc (g 0) (Nat.le_refl _)).1
  have hnb := jw_at W (c := (sp_near g c (g 0)).1) (by omega)
  unfold sp_goalK
  split <;> first | assumption | (split <;> omega)
theorem sp_pace_le {k f t : Nat} (hf : f < 10) : sp_pace k f t ≤ 8 := by
  have : f / 4 ≤ 2 := by omega
  unfold sp_pace
  split <;> first | omega | (split <;> omega)
theorem sp_grow_le (k : Nat) : sp_grow k ≤ 2 := by
  unfold sp_grow
  split <;> omega
theorem sp_to_lt {a b p : Nat} (ha : a < 16) (hb : b < 16) : sp_to a b p < 16 := by
  unfold sp_to
  split <;> omega
theorem sp_toc_lt {g : Nat → Nat} (W : jw g) {c : Nat} (hc : c < g 0) : sp_toc g c < 16 := sp_to_lt (jw_at W (by have := jw_n W; omega)) (sp_goalK_lt W hc _)
theorem jw_eat {g : Nat → Nat} (W : jw g) {p : Nat} (hp : p < 16) : jw (sp_eat g p) := by
  unfold sp_eat
  split
  · exact jw_up_fish W hp (by have := jw_fish W hp; omega)
  · exact W
theorem jw_move {g : Nat → Nat} (W : jw g) {c : Nat} (hc : c < g 0) : jw (sp_move g c) := by
  have hn := jw_n W
  unfold sp_move
  split
  · exact W
  · exact jw_eat (jw_up_at W (by omega) (sp_toc_lt W hc)) (sp_toc_lt W hc)
theorem sp_eat_ne {g : Nat → Nat} {p i : Nat} (h : i ≠ 4 + p) : sp_eat g p i = g i := by
  unfold sp_eat
  split
  · exact sp_up_ne h
  · rfl
theorem sp_move_ne {g : Nat → Nat} {c i : Nat} (h1 : i ≠ 4 + sp_toc g c) (h2 : i ≠ 38 + 5 * c) : sp_move g c i = g i := by
  unfold sp_move
  split
  · rfl
  · rw [sp_eat_ne h1, sp_up_ne h2]
theorem sp_move_at {g : Nat → Nat} (W : jw g) {c : Nat} (hc : c < g 0) : sp_move g c (38 + 5 * c) = sp_toc g c := by
  have := sp_toc_lt W hc
  unfold sp_move
  split
  · rename_i q; exact q.symm
  · rw [sp_eat_ne (by omega), sp_up_eq rfl]
theorem jw_hairs {g : Nat → Nat} (W : jw g) {c : Nat} (hc : c < g 0) : jw (sp_hair g c) := by
  have hn := jw_n W
  exact jw_up_hair W (by omega) (by omega)
theorem sp_gone_ne {g : Nat → Nat} (W : jw g) {c : Nat} (hc : c < g 0) {kept : Bool} {i : Nat} (h : ¬ (4 ≤ i ∧ i < 20)) (h2 : i ≠ 38 + 5 * c) (h3 : i ≠ 39 + 5 * c) : sp_gone g c kept i = g i := by
  have := sp_toc_lt W hc
  unfold sp_gone sp_hair
  rw [sp_up_ne h3]
  cases kept
  · exact sp_move_ne (by omega) h2
  · rfl
theorem sp_gone_at {g : Nat → Nat} (W : jw g) {c : Nat} (hc : c < g 0) : sp_gone g c false (38 + 5 * c) = sp_toc g c := by
  unfold sp_gone sp_hair
  rw [sp_up_ne (by omega)]
  exact sp_move_at W hc
theorem sp_gone_atk {g : Nat → Nat} {c : Nat} : sp_gone g c true (38 + 5 * c) = g (38 + 5 * c) := by
  unfold sp_gone sp_hair
  rw [sp_up_ne (by omega)]
  rfl
theorem sp_gone_hair {g : Nat → Nat} (W : jw g) {c : Nat} (hc : c < g 0) {kept : Bool} : sp_gone g c kept (39 + 5 * c) = min 99 (g (39 + 5 * c) + sp_grow (g (36 + 5 * c))) := by
  have := sp_toc_lt W hc
  unfold sp_gone sp_hair
  rw [sp_up_eq rfl]
  cases kept
  · show min 99 (sp_move g c (39 + 5 * c) + sp_grow (sp_move g c (36 + 5 * c))) = _
    rw [sp_move_ne (by omega) (by omega), sp_move_ne (by omega) (by omega)]
  · rfl
theorem jw_gone {g : Nat → Nat} (W : jw g) {c : Nat} (hc : c < g 0) {kept : Bool} : jw (sp_gone g c kept) := by
  have := sp_toc_lt W hc
  unfold sp_gone
  cases kept
  · exact jw_hairs (jw_move W hc) (by show c < sp_move g c 0; rw [sp_move_ne (by omega) (by omega)]; exact hc)
  · exact jw_hairs W hc
theorem jw_pass {g : Nat → Nat} (W : jw g) {c fm : Nat} (hc : c < g 0) : jw (sp_pass g c fm) := by
  have hn := jw_n W
  have hm := jw_m W
  unfold sp_pass
  split
  · rename_i q
    have hnm : g (40 + 5 * c) < g 1 := by
      rcases jw_nm W hc with z | z
      · exact absurd z q.1.1
      · exact z
    exact jw_up_side (jw_up_pas W (by omega) ⟨by omega, hnm⟩) (by omega) (by omega)
  · exact W
theorem sp_pass_ne {g : Nat → Nat} (W : jw g) {c fm i : Nat} (hc : c < g 0) (hi : i < 66) : sp_pass g c fm i = g i := by
  unfold sp_pass
  split
  · rw [sp_up_ne (by omega), sp_up_ne (by omega)]
  · rfl
theorem jw_one {g : Nat → Nat} (W : jw g) {c : Nat} (hc : c < g 0) {kept : Bool} : jw (sp_one g c kept) := by
  have hn := jw_n W
  have h0 : sp_gone g c kept 0 = g 0 := sp_gone_ne W hc (by omega) (by omega) (by omega)
  unfold sp_one
  split
  · exact jw_pass (jw_gone W hc) (by rw [h0]; exact hc)
  · exact jw_gone W hc
theorem sp_one_ne {g : Nat → Nat} (W : jw g) {c i : Nat} (hc : c < g 0) {kept : Bool} (h : ¬ (4 ≤ i ∧ i < 20)) (h2 : i ≠ 38 + 5 * c) (h3 : i ≠ 39 + 5 * c) (hi : i < 66) : sp_one g c kept i = g i := by
  have h0 : sp_gone g c kept 0 = g 0 := sp_gone_ne W hc (by omega) (by omega) (by omega)
  unfold sp_one
  split
  · rw [sp_pass_ne (jw_gone W hc) (by rw [h0]; exact hc) hi]; exact sp_gone_ne W hc h h2 h3
  · exact sp_gone_ne W hc h h2 h3
theorem jw_cats {g : Nat → Nat} (W : jw g) {kept : Bool} : ∀ c, c ≤ g 0 → jw (sp_cats g kept c).1 ∧ (∀ i, i < 4 → (sp_cats g kept c).1 i = g i) ∧ (sp_cats g kept c).2 < 2 ^ c := by
  intro c
  induction c with
  | zero => intro _; exact ⟨W, fun _ _ => rfl, Nat.one_pos⟩
  | succ c ih =>
    intro hc
    obtain ⟨h1, h2, h3⟩ := ih (by omega)
    have h0 : (sp_cats g kept c).1 0 = g 0 := h2 0 (by decide)
    have hc2 : c < (sp_cats g kept c).1 0 := by omega
    refine ⟨jw_one h1 hc2, fun i hi => ?_, ?_⟩
    · show sp_one (sp_cats g kept c).1 c kept i = g i
      rw [sp_one_ne h1 hc2 (by omega) (by omega) (by omega) (by omega)]
      exact h2 i hi
    · show (if _ then _ else _) < 2 ^ (c + 1)
      rw [Nat.pow_succ]
      have h4 : (sp_cats g kept c).2 + 2 ^ c < 2 ^ c * 2 := by omega
      have h5 : (sp_cats g kept c).2 < 2 ^ c * 2 := by omega
      split
      · exact h4
      · exact h5
theorem jw_clock {g : Nat → Nat} (W : jw g) : jw (sp_clock g) := by
  have := jw_t W
  unfold sp_clock
  split
  · exact jw_up_day (jw_up_hour W (by omega))
  · exact jw_up_hour W (by omega)
theorem sp_clock_ne {g : Nat → Nat} {i : Nat} (h2 : i ≠ 2) (h3 : i ≠ 3) : sp_clock g i = g i := by
  unfold sp_clock
  split
  · rw [sp_up_ne h3, sp_up_ne h2]
  · rw [sp_up_ne h2]
theorem jw_hour {g : Nat → Nat} (W : jw g) {kept : Bool} : jw (sp_hour g kept) := jw_clock (jw_cats W (g 0) (Nat.le_refl _)).1
theorem sp_hour_0 {g : Nat → Nat} (W : jw g) {kept : Bool} : sp_hour g kept 0 = g 0 := (sp_clock_ne (by decide) (by decide)).trans ((jw_cats W (g 0) (Nat.le_refl _)).2.1 0 (by decide))
theorem sp_hour_1 {g : Nat → Nat} (W : jw g) {kept : Bool} : sp_hour g kept 1 = g 1 := (sp_clock_ne (by decide) (by decide)).trans ((jw_cats W (g 0) (Nat.le_refl _)).2.1 1 (by decide))
theorem sp_set_lt {g : Nat → Nat} (W : jw g) {kept : Bool} : sp_set g kept < 64 := by
  have h1 := (jw_cats W (kept := kept) (g 0) (Nat.le_refl _)).2.2
  have h2 : 2 ^ g 0 ≤ 2 ^ 6 := Nat.pow_le_pow_right (by decide) (jw_n W)
  unfold sp_set
  omega
/-- n hours on -/
def sp_it (g : Nat → Nat) : Nat → Nat → Nat
  | 0 => g
  | n + 1 => sp_hour (sp_it g n) false
theorem jw_it {g : Nat → Nat} (W : jw g) : ∀ n, jw (sp_it g n) ∧ sp_it g n 0 = g 0 ∧ sp_it g n 1 = g 1 := by
  intro n
  induction n with
  | zero => exact ⟨W, rfl, rfl⟩
  | succ n ih => exact ⟨jw_hour ih.1, (sp_hour_0 ih.1).trans ih.2.1, (sp_hour_1 ih.1).trans ih.2.2⟩
end
section
/-! CLASS: an hour. -/
theorem sp_ap_lt {a b : Nat} (ha : a < 16) (hb : b < 16) : sp_ap a b < 16 := by unfold sp_ap; split <;> omega
/-- all but the frontier j is as it was, and who crossed last there, too -/
def jf_fc (j : Nat) (h h2 : jm_M) : Prop := jf_fr j h h2 ∧ h2 (2, j, 0) 14 = h (2, j, 0) 14
theorem jf_fc_rf {j : Nat} {h : jm_M} : jf_fc j h h := ⟨jf_fr_rf, rfl⟩
theorem jf_fc_tr {j : Nat} {h h2 h3 : jm_M} (a : jf_fc j h h2) (b : jf_fc j h2 h3) : jf_fc j h h3 := ⟨jf_fr_tr a.1 b.1, b.2.trans a.2⟩
theorem jf_fc_setA {j : Nat} {h h2 : jm_M} (a : jf_fc j h h2) {k : jm_K} {f : Nat → Int32} (hk : (k.1 = 2 ∨ k.1 = 6) ∧ k.2.1 = j) (hne : (2, j, 0) ≠ k) : jf_fc j h (jm_set h2 k f) := ⟨jf_fr_set a.1 hk, by rw [jm_set_ne hne]; exact a.2⟩
theorem jf_fc_setB {j : Nat} {h h2 : jm_M} (a : jf_fc j h h2) {k : Nat} {x : Int32} (hk : 14 ≠ k) : jf_fc j h (jm_set h2 (2, j, 0) (upd (h2 (2, j, 0)) k x)) := ⟨jf_fr_set a.1 ⟨Or.inl rfl, rfl⟩, by rw [jm_set_eq, jx_ne hk]; exact a.2⟩
theorem jx_min {a b : Nat} (ha : a < 2 ^ 31) (hb : b < 2 ^ 31) : (if nI a < nI b then nI a else nI b) = nI (min b a) := by
  by_cases q : a < b
  · rw [if_pos ((nI_ltI ha hb).mpr q), Nat.min_eq_right (Nat.le_of_lt q)]
  · rw [if_neg (fun z => q ((nI_ltI ha hb).mp z)), Nat.min_eq_left (by omega)]
set_option maxHeartbeats 4000000 in
set_option maxRecDepth 20000 in
theorem ta_rich_l {h : jm_M} {j s o fm : Nat} {g : Nat → Nat} (hr : ∀ p, p < 16 → h (6, j, s) p = nI (g (o + p))) (hb : ∀ p, p < 16 → g (o + p) ≤ 9) (hf : fm < 16) : ∀ k, k ≤ 16 → jt_T 32 (5, [(0, .inr (.inr (2, j, 0))), (1, .inr (.inr (6, j, s))), (2, .inl (nI fm)), (3, .inl (nI (sp_rich g o fm k))), (4, .inl (nI k))], [], h) (fun u h' => u = some (.inl (nI (sp_rich g o fm 16))) ∧ h' = h) := jx_up (fun k hk nx => by
  have hs := sp_rich_lt g o fm hf k hk
  refine jt_go jm_m32 4 2 (f' := (9, [(0, .inr (.inr (2, j, 0))), (1, .inr (.inr (6, j, s))), (2, .inl (nI fm)), (3, .inl (nI (sp_rich g o fm k))), (4, .inl (nI k))], [.inl (nI 16), .inl (nI k)], h)) (P := True) rfl trivial ?_
  refine jt_nicge jm_m32 6 (a := k) (b := 16) (by omega) (by omega) (tgt := 57) (nxt := 12) rfl rfl rfl (fun c9 => ?_) (fun c9 => ?_)
  · refine jt_go jm_m32 34 1 (f' := (58, [(0, .inr (.inr (2, j, 0))), (1, .inr (.inr (6, j, s))), (2, .inl (nI fm)), (3, .inl (nI (sp_rich g o fm k))), (4, .inl (nI k))], [.inl (nI (sp_rich g o fm k))], h)) (P := True) rfl trivial ?_
    refine jt_iret jm_m32 35 rfl ?_
    have e : k = 16 := by omega
    subst e
    exact ⟨rfl, rfl⟩
  · refine jt_go jm_m32 7 3 (f' := (16, [(0, .inr (.inr (2, j, 0))), (1, .inr (.inr (6, j, s))), (2, .inl (nI fm)), (3, .inl (nI (sp_rich g o fm k))), (4, .inl (nI k))], [.inl (h (6, j, s) (nI k).toNatClampNeg)], h)) (P := vp_in (nI k) 16 ∧ True) rfl ⟨(vp_in_nI (by omega) (by decide)), trivial⟩ ?_
    refine jt_ti (show (h (6, j, s) (nI k).toNatClampNeg) = nI (g (o + k)) from by rw [nI_clamp (by omega)]; exact hr _ (by omega)) ?_
    have bq1 := hb (k) (by omega)
    refine jt_go jm_m32 10 3 (f' := (19, [(0, .inr (.inr (2, j, 0))), (1, .inr (.inr (6, j, s))), (2, .inl (nI fm)), (3, .inl (nI (sp_rich g o fm k))), (4, .inl (nI k))], [.inl (h (6, j, s) (nI (sp_rich g o fm k)).toNatClampNeg), .inl (nI (g (o + k)))], h)) (P := vp_in (nI (sp_rich g o fm k)) 16 ∧ True) rfl ⟨(vp_in_nI (by omega) (by decide)), trivial⟩ ?_
    refine jt_ti (show (h (6, j, s) (nI (sp_rich g o fm k)).toNatClampNeg) = nI (g (o + (sp_rich g o fm k))) from by rw [nI_clamp (by omega)]; exact hr _ (by omega)) ?_
    have bq2 := hb (sp_rich g o fm k) (by omega)
    refine jt_nicgt jm_m32 13 (a := g (o + k)) (b := g (o + (sp_rich g o fm k))) (by omega) (by omega) (tgt := 48) (nxt := 22) rfl rfl rfl (fun c19 => ?_) (fun c19 => ?_)
    · refine jt_go jm_m32 30 2 (f' := (51, [(3, .inl (nI k)), (0, .inr (.inr (2, j, 0))), (1, .inr (.inr (6, j, s))), (2, .inl (nI fm)), (4, .inl (nI k))], [], h)) (P := True) rfl trivial ?_
      refine jt_inc jm_m32 32 (c := k) (L' := [(4, .inl (nI (k + 1))), (3, .inl (nI k)), (0, .inr (.inr (2, j, 0))), (1, .inr (.inr (6, j, s))), (2, .inl (nI fm))]) rfl rfl rfl rfl ?_
      refine jt_go jm_m32 33 1 (f' := (5, [(4, .inl (nI (k + 1))), (3, .inl (nI k)), (0, .inr (.inr (2, j, 0))), (1, .inr (.inr (6, j, s))), (2, .inl (nI fm))], [], h)) (P := True) rfl trivial ?_
      refine jt_pick (L' := [(0, .inr (.inr (2, j, 0))), (1, .inr (.inr (6, j, s))), (2, .inl (nI fm)), (3, .inl (nI k)), (4, .inl (nI (k + 1)))]) [2, 3, 4, 1, 0] rfl ?_
      have e : sp_rich g o fm (k + 1) = k := if_pos (by omega)
      have q := nx c9
      rw [e] at q
      exact q
    · refine jt_go jm_m32 14 3 (f' := (26, [(0, .inr (.inr (2, j, 0))), (1, .inr (.inr (6, j, s))), (2, .inl (nI fm)), (3, .inl (nI (sp_rich g o fm k))), (4, .inl (nI k))], [.inl (h (6, j, s) (nI k).toNatClampNeg)], h)) (P := vp_in (nI k) 16 ∧ True) rfl ⟨(vp_in_nI (by omega) (by decide)), trivial⟩ ?_
      refine jt_ti (show (h (6, j, s) (nI k).toNatClampNeg) = nI (g (o + k)) from by rw [nI_clamp (by omega)]; exact hr _ (by omega)) ?_
      have bq3 := hb (k) (by omega)
      refine jt_go jm_m32 17 3 (f' := (29, [(0, .inr (.inr (2, j, 0))), (1, .inr (.inr (6, j, s))), (2, .inl (nI fm)), (3, .inl (nI (sp_rich g o fm k))), (4, .inl (nI k))], [.inl (h (6, j, s) (nI (sp_rich g o fm k)).toNatClampNeg), .inl (nI (g (o + k)))], h)) (P := vp_in (nI (sp_rich g o fm k)) 16 ∧ True) rfl ⟨(vp_in_nI (by omega) (by decide)), trivial⟩ ?_
      refine jt_ti (show (h (6, j, s) (nI (sp_rich g o fm k)).toNatClampNeg) = nI (g (o + (sp_rich g o fm k))) from by rw [nI_clamp (by omega)]; exact hr _ (by omega)) ?_
      have bq4 := hb (sp_rich g o fm k) (by omega)
      refine jt_nicne jm_m32 20 (a := g (o + k)) (b := g (o + (sp_rich g o fm k))) (by omega) (by omega) (tgt := 51) (nxt := 32) rfl rfl rfl (fun c29 => ?_) (fun c29 => ?_)
      · refine jt_inc jm_m32 32 (c := k) (L' := [(4, .inl (nI (k + 1))), (0, .inr (.inr (2, j, 0))), (1, .inr (.inr (6, j, s))), (2, .inl (nI fm)), (3, .inl (nI (sp_rich g o fm k)))]) rfl rfl rfl rfl ?_
        refine jt_go jm_m32 33 1 (f' := (5, [(4, .inl (nI (k + 1))), (0, .inr (.inr (2, j, 0))), (1, .inr (.inr (6, j, s))), (2, .inl (nI fm)), (3, .inl (nI (sp_rich g o fm k)))], [], h)) (P := True) rfl trivial ?_
        refine jt_pick (L' := [(0, .inr (.inr (2, j, 0))), (1, .inr (.inr (6, j, s))), (2, .inl (nI fm)), (3, .inl (nI (sp_rich g o fm k))), (4, .inl (nI (k + 1)))]) [1, 2, 3, 4, 0] rfl ?_
        have e : sp_rich g o fm (k + 1) = sp_rich g o fm k := if_neg (by omega)
        have q := nx c9
        rw [e] at q
        exact q
      · refine jt_go jm_m32 21 4 (f' := (39, [(0, .inr (.inr (2, j, 0))), (1, .inr (.inr (6, j, s))), (2, .inl (nI fm)), (3, .inl (nI (sp_rich g o fm k))), (4, .inl (nI k))], [.inl (if 0 ≤ ((nI k) - (nI fm)) then ((nI k) - (nI fm)) else 0 - ((nI k) - (nI fm)))], h)) (P := True) rfl trivial ?_
        refine jt_ti (show (if 0 ≤ ((nI k) - (nI fm)) then ((nI k) - (nI fm)) else 0 - ((nI k) - (nI fm))) = nI (sp_ap k fm) from jx_abs16 _ (by omega) _ (by omega)) ?_
        have bp1 : sp_ap k fm < 16 := sp_ap_lt (by omega) (by omega)
        refine jt_go jm_m32 25 4 (f' := (45, [(0, .inr (.inr (2, j, 0))), (1, .inr (.inr (6, j, s))), (2, .inl (nI fm)), (3, .inl (nI (sp_rich g o fm k))), (4, .inl (nI k))], [.inl (if 0 ≤ ((nI (sp_rich g o fm k)) - (nI fm)) then ((nI (sp_rich g o fm k)) - (nI fm)) else 0 - ((nI (sp_rich g o fm k)) - (nI fm))), .inl (nI (sp_ap k fm))], h)) (P := True) rfl trivial ?_
        refine jt_ti (show (if 0 ≤ ((nI (sp_rich g o fm k)) - (nI fm)) then ((nI (sp_rich g o fm k)) - (nI fm)) else 0 - ((nI (sp_rich g o fm k)) - (nI fm))) = nI (sp_ap (sp_rich g o fm k) fm) from jx_abs16 _ (by omega) _ (by omega)) ?_
        have bp2 : sp_ap (sp_rich g o fm k) fm < 16 := sp_ap_lt (by omega) (by omega)
        refine jt_nicge jm_m32 29 (a := sp_ap k fm) (b := sp_ap (sp_rich g o fm k) fm) (by omega) (by omega) (tgt := 51) (nxt := 48) rfl rfl rfl (fun c45 => ?_) (fun c45 => ?_)
        · refine jt_inc jm_m32 32 (c := k) (L' := [(4, .inl (nI (k + 1))), (0, .inr (.inr (2, j, 0))), (1, .inr (.inr (6, j, s))), (2, .inl (nI fm)), (3, .inl (nI (sp_rich g o fm k)))]) rfl rfl rfl rfl ?_
          refine jt_go jm_m32 33 1 (f' := (5, [(4, .inl (nI (k + 1))), (0, .inr (.inr (2, j, 0))), (1, .inr (.inr (6, j, s))), (2, .inl (nI fm)), (3, .inl (nI (sp_rich g o fm k)))], [], h)) (P := True) rfl trivial ?_
          refine jt_pick (L' := [(0, .inr (.inr (2, j, 0))), (1, .inr (.inr (6, j, s))), (2, .inl (nI fm)), (3, .inl (nI (sp_rich g o fm k))), (4, .inl (nI (k + 1)))]) [1, 2, 3, 4, 0] rfl ?_
          have e : sp_rich g o fm (k + 1) = sp_rich g o fm k := if_neg (by omega)
          have q := nx c9
          rw [e] at q
          exact q
        · refine jt_go jm_m32 30 2 (f' := (51, [(3, .inl (nI k)), (0, .inr (.inr (2, j, 0))), (1, .inr (.inr (6, j, s))), (2, .inl (nI fm)), (4, .inl (nI k))], [], h)) (P := True) rfl trivial ?_
          refine jt_inc jm_m32 32 (c := k) (L' := [(4, .inl (nI (k + 1))), (3, .inl (nI k)), (0, .inr (.inr (2, j, 0))), (1, .inr (.inr (6, j, s))), (2, .inl (nI fm))]) rfl rfl rfl rfl ?_
          refine jt_go jm_m32 33 1 (f' := (5, [(4, .inl (nI (k + 1))), (3, .inl (nI k)), (0, .inr (.inr (2, j, 0))), (1, .inr (.inr (6, j, s))), (2, .inl (nI fm))], [], h)) (P := True) rfl trivial ?_
          refine jt_pick (L' := [(0, .inr (.inr (2, j, 0))), (1, .inr (.inr (6, j, s))), (2, .inl (nI fm)), (3, .inl (nI k)), (4, .inl (nI (k + 1)))]) [2, 3, 4, 1, 0] rfl ?_
          have e : sp_rich g o fm (k + 1) = k := if_pos (by omega)
          have q := nx c9
          rw [e] at q
          exact q)
set_option maxHeartbeats 4000000 in
set_option maxRecDepth 20000 in
theorem ta_rich {h : jm_M} {j s o fm : Nat} {g : Nat → Nat} (hr : ∀ p, p < 16 → h (6, j, s) p = nI (g (o + p))) (hb : ∀ p, p < 16 → g (o + p) ≤ 9) (hf : fm < 16) : jt_Pu 32 [.inr (.inr (2, j, 0)), .inr (.inr (6, j, s)), .inl (nI fm)] h (.inl (nI (sp_rich g o fm 16))) := by
  show jt_T 32 (0, [(0, .inr (.inr (2, j, 0))), (1, .inr (.inr (6, j, s))), (2, .inl (nI fm))], [], h) _
  refine jt_go jm_m32 0 4 (f' := (5, [(4, .inl (nI 0)), (3, .inl (nI fm)), (0, .inr (.inr (2, j, 0))), (1, .inr (.inr (6, j, s))), (2, .inl (nI fm))], [], h)) (P := True) rfl trivial ?_
  refine jt_pick (L' := [(0, .inr (.inr (2, j, 0))), (1, .inr (.inr (6, j, s))), (2, .inl (nI fm)), (3, .inl (nI fm)), (4, .inl (nI 0))]) [2, 3, 4, 1, 0] rfl ?_
  exact ta_rich_l hr hb hf 0 (Nat.zero_le _)
set_option maxHeartbeats 4000000 in
set_option maxRecDepth 20000 in
theorem ta_near_l {h : jm_M} {j : Nat} {g : Nat → Nat} (R : jf_rel h j g) (W : jw g) {c : Nat} (hc : c < g 0) : ∀ k, k ≤ g 0 → jt_T 33 (8, [(0, .inr (.inr (2, j, 0))), (1, .inl (nI c)), (2, .inl (nI ((sp_near g c k).1))), (3, .inl (nI ((sp_near g c k).2))), (4, .inl (nI k))], [], h) (fun u h' => u = some (.inl (nI (g (38 + 5 * (sp_near g c (g 0)).1)))) ∧ h' = h) := jx_up (fun k hk nx => by
  have bn := jw_n W
  have bm := jw_m W
  have bt := jw_t W
  have hs := sp_near_lt g c (g 0) hc k hk
  have hs1 := hs.1
  have hs2 := hs.2
  refine jt_go jm_m33 6 3 (f' := (14, [(0, .inr (.inr (2, j, 0))), (1, .inl (nI c)), (2, .inl (nI ((sp_near g c k).1))), (3, .inl (nI ((sp_near g c k).2))), (4, .inl (nI k))], [.inl (h (2, j, 0) 9), .inl (nI k)], h)) (P := True) rfl trivial ?_
  refine jt_ti (show (h (2, j, 0) 9) = nI (g 0) from jf_cats R) ?_
  have bq1 := jw_n W
  refine jt_nicge jm_m33 9 (a := k) (b := g 0) (by omega) (by omega) (tgt := 60) (nxt := 17) rfl rfl rfl (fun c14 => ?_) (fun c14 => ?_)
  · refine jt_go jm_m33 33 4 (f' := (66, [(0, .inr (.inr (2, j, 0))), (1, .inl (nI c)), (2, .inl (nI ((sp_near g c k).1))), (3, .inl (nI ((sp_near g c k).2))), (4, .inl (nI k))], [.inl (h (2, j, 3) (nI ((sp_near g c k).1)).toNatClampNeg)], h)) (P := vp_in (nI ((sp_near g c k).1)) 6 ∧ True) rfl ⟨(vp_in_nI (by omega) (by decide)), trivial⟩ ?_
    refine jt_ti (show (h (2, j, 3) (nI ((sp_near g c k).1)).toNatClampNeg) = nI (g (38 + 5 * ((sp_near g c k).1))) from jf_at R (c := (sp_near g c k).1) (nI_clamp (by omega)) (by omega)) ?_
    have bq2 := jw_at W (c := (sp_near g c k).1) (by omega)
    refine jt_iret jm_m33 37 rfl ?_
    have e : k = g 0 := by omega
    subst e
    exact ⟨rfl, rfl⟩
  · refine jt_go jm_m33 10 4 (f' := (24, [(0, .inr (.inr (2, j, 0))), (1, .inl (nI c)), (2, .inl (nI ((sp_near g c k).1))), (3, .inl (nI ((sp_near g c k).2))), (4, .inl (nI k))], [.inl (h (2, j, 3) (nI k).toNatClampNeg)], h)) (P := vp_in (nI k) 6 ∧ True) rfl ⟨(vp_in_nI (by omega) (by decide)), trivial⟩ ?_
    refine jt_ti (show (h (2, j, 3) (nI k).toNatClampNeg) = nI (g (38 + 5 * k)) from jf_at R (c := k) (nI_clamp (by omega)) (by omega)) ?_
    have bq3 := jw_at W (c := k) (by omega)
    refine jt_go jm_m33 14 4 (f' := (30, [(0, .inr (.inr (2, j, 0))), (1, .inl (nI c)), (2, .inl (nI ((sp_near g c k).1))), (3, .inl (nI ((sp_near g c k).2))), (4, .inl (nI k))], [.inl (h (2, j, 3) (nI c).toNatClampNeg), .inl (nI (g (38 + 5 * k)))], h)) (P := vp_in (nI c) 6 ∧ True) rfl ⟨(vp_in_nI (by omega) (by decide)), trivial⟩ ?_
    refine jt_ti (show (h (2, j, 3) (nI c).toNatClampNeg) = nI (g (38 + 5 * c)) from jf_at R (c := c) (nI_clamp (by omega)) (by omega)) ?_
    have bq4 := jw_at W (c := c) (by omega)
    refine jt_go jm_m33 18 2 (f' := (34, [(0, .inr (.inr (2, j, 0))), (1, .inl (nI c)), (2, .inl (nI ((sp_near g c k).1))), (3, .inl (nI ((sp_near g c k).2))), (4, .inl (nI k))], [.inl (if 0 ≤ ((nI (g (38 + 5 * k))) - (nI (g (38 + 5 * c)))) then ((nI (g (38 + 5 * k))) - (nI (g (38 + 5 * c)))) else 0 - ((nI (g (38 + 5 * k))) - (nI (g (38 + 5 * c)))))], h)) (P := True) rfl trivial ?_
    refine jt_ti (show (if 0 ≤ ((nI (g (38 + 5 * k))) - (nI (g (38 + 5 * c)))) then ((nI (g (38 + 5 * k))) - (nI (g (38 + 5 * c)))) else 0 - ((nI (g (38 + 5 * k))) - (nI (g (38 + 5 * c))))) = nI (sp_ap (g (38 + 5 * k)) (g (38 + 5 * c))) from jx_abs16 _ (by omega) _ (by omega)) ?_
    have bap : sp_ap (g (38 + 5 * k)) (g (38 + 5 * c)) < 16 := by unfold sp_ap; split <;> omega
    refine jt_go jm_m33 20 3 (f' := (39, [(5, .inl (nI (sp_ap (g (38 + 5 * k)) (g (38 + 5 * c))))), (0, .inr (.inr (2, j, 0))), (1, .inl (nI c)), (2, .inl (nI ((sp_near g c k).1))), (3, .inl (nI ((sp_near g c k).2))), (4, .inl (nI k))], [.inl (nI c), .inl (nI k)], h)) (P := True) rfl trivial ?_
    refine jt_niceq jm_m33 23 (a := k) (b := c) (by omega) (by omega) (tgt := 54) (nxt := 42) rfl rfl rfl (fun c39 => ?_) (fun c39 => ?_)
    · refine jt_inc jm_m33 31 (c := k) (L' := [(4, .inl (nI (k + 1))), (5, .inl (nI (sp_ap (g (38 + 5 * k)) (g (38 + 5 * c))))), (0, .inr (.inr (2, j, 0))), (1, .inl (nI c)), (2, .inl (nI ((sp_near g c k).1))), (3, .inl (nI ((sp_near g c k).2)))]) rfl rfl rfl rfl ?_
      refine jt_go jm_m33 32 1 (f' := (8, [(4, .inl (nI (k + 1))), (5, .inl (nI (sp_ap (g (38 + 5 * k)) (g (38 + 5 * c))))), (0, .inr (.inr (2, j, 0))), (1, .inl (nI c)), (2, .inl (nI ((sp_near g c k).1))), (3, .inl (nI ((sp_near g c k).2)))], [], h)) (P := True) rfl trivial ?_
      refine jt_pick (L' := [(0, .inr (.inr (2, j, 0))), (1, .inl (nI c)), (2, .inl (nI ((sp_near g c k).1))), (3, .inl (nI ((sp_near g c k).2))), (4, .inl (nI (k + 1)))]) [2, 3, 4, 5, 0] rfl ?_
      have e : sp_near g c (k + 1) = sp_near g c k := if_neg (by omega)
      have q := nx c14
      rw [e] at q
      exact q
    · refine jt_go jm_m33 24 2 (f' := (45, [(5, .inl (nI (sp_ap (g (38 + 5 * k)) (g (38 + 5 * c))))), (0, .inr (.inr (2, j, 0))), (1, .inl (nI c)), (2, .inl (nI ((sp_near g c k).1))), (3, .inl (nI ((sp_near g c k).2))), (4, .inl (nI k))], [.inl (nI ((sp_near g c k).2)), .inl (nI (sp_ap (g (38 + 5 * k)) (g (38 + 5 * c))))], h)) (P := True) rfl trivial ?_
      refine jt_nicge jm_m33 26 (a := sp_ap (g (38 + 5 * k)) (g (38 + 5 * c))) (b := (sp_near g c k).2) (by omega) (by omega) (tgt := 54) (nxt := 48) rfl rfl rfl (fun c45 => ?_) (fun c45 => ?_)
      · refine jt_inc jm_m33 31 (c := k) (L' := [(4, .inl (nI (k + 1))), (5, .inl (nI (sp_ap (g (38 + 5 * k)) (g (38 + 5 * c))))), (0, .inr (.inr (2, j, 0))), (1, .inl (nI c)), (2, .inl (nI ((sp_near g c k).1))), (3, .inl (nI ((sp_near g c k).2)))]) rfl rfl rfl rfl ?_
        refine jt_go jm_m33 32 1 (f' := (8, [(4, .inl (nI (k + 1))), (5, .inl (nI (sp_ap (g (38 + 5 * k)) (g (38 + 5 * c))))), (0, .inr (.inr (2, j, 0))), (1, .inl (nI c)), (2, .inl (nI ((sp_near g c k).1))), (3, .inl (nI ((sp_near g c k).2)))], [], h)) (P := True) rfl trivial ?_
        refine jt_pick (L' := [(0, .inr (.inr (2, j, 0))), (1, .inl (nI c)), (2, .inl (nI ((sp_near g c k).1))), (3, .inl (nI ((sp_near g c k).2))), (4, .inl (nI (k + 1)))]) [2, 3, 4, 5, 0] rfl ?_
        have e : sp_near g c (k + 1) = sp_near g c k := if_neg (by omega)
        have q := nx c14
        rw [e] at q
        exact q
      · refine jt_go jm_m33 27 4 (f' := (54, [(3, .inl (nI (sp_ap (g (38 + 5 * k)) (g (38 + 5 * c))))), (2, .inl (nI k)), (5, .inl (nI (sp_ap (g (38 + 5 * k)) (g (38 + 5 * c))))), (0, .inr (.inr (2, j, 0))), (1, .inl (nI c)), (4, .inl (nI k))], [], h)) (P := True) rfl trivial ?_
        refine jt_inc jm_m33 31 (c := k) (L' := [(4, .inl (nI (k + 1))), (3, .inl (nI (sp_ap (g (38 + 5 * k)) (g (38 + 5 * c))))), (2, .inl (nI k)), (5, .inl (nI (sp_ap (g (38 + 5 * k)) (g (38 + 5 * c))))), (0, .inr (.inr (2, j, 0))), (1, .inl (nI c))]) rfl rfl rfl rfl ?_
        refine jt_go jm_m33 32 1 (f' := (8, [(4, .inl (nI (k + 1))), (3, .inl (nI (sp_ap (g (38 + 5 * k)) (g (38 + 5 * c))))), (2, .inl (nI k)), (5, .inl (nI (sp_ap (g (38 + 5 * k)) (g (38 + 5 * c))))), (0, .inr (.inr (2, j, 0))), (1, .inl (nI c))], [], h)) (P := True) rfl trivial ?_
        refine jt_pick (L' := [(0, .inr (.inr (2, j, 0))), (1, .inl (nI c)), (2, .inl (nI k)), (3, .inl (nI (sp_ap (g (38 + 5 * k)) (g (38 + 5 * c))))), (4, .inl (nI (k + 1)))]) [4, 5, 2, 1, 0] rfl ?_
        have e : sp_near g c (k + 1) = (k, sp_ap (g (38 + 5 * k)) (g (38 + 5 * c))) := if_pos (by omega)
        have q := nx c14
        rw [e] at q
        exact q)
set_option maxHeartbeats 4000000 in
set_option maxRecDepth 20000 in
theorem ta_near {h : jm_M} {j : Nat} {g : Nat → Nat} (R : jf_rel h j g) (W : jw g) {c : Nat} (hc : c < g 0) : jt_Pu 33 [.inr (.inr (2, j, 0)), .inl (nI c)] h (.inl (nI (g (38 + 5 * (sp_near g c (g 0)).1)))) := by
  show jt_T 33 (0, [(0, .inr (.inr (2, j, 0))), (1, .inl (nI c))], [], h) _
  refine jt_go jm_m33 0 6 (f' := (8, [(4, .inl (nI 0)), (3, .inl (nI 16)), (2, .inl (nI c)), (0, .inr (.inr (2, j, 0))), (1, .inl (nI c))], [], h)) (P := True) rfl trivial ?_
  refine jt_pick (L' := [(0, .inr (.inr (2, j, 0))), (1, .inl (nI c)), (2, .inl (nI c)), (3, .inl (nI 16)), (4, .inl (nI 0))]) [3, 4, 2, 1, 0] rfl ?_
  exact ta_near_l R W hc 0 (Nat.zero_le _)
set_option maxHeartbeats 4000000 in
set_option maxRecDepth 20000 in
theorem ta_goal0 {h : jm_M} {j : Nat} {g : Nat → Nat} (R : jf_rel h j g) (W : jw g) {c : Nat} (hc : c < g 0) {k : Nat} : jt_Pu 0 [.inr (.inr (1, k, 0)), .inr (.inr (2, j, 0)), .inl (nI c)] h (.inl (nI (sp_rich g 4 (g (38 + 5 * c)) 16))) := by
  have bn := jw_n W
  have bm := jw_m W
  have bt := jw_t W
  show jt_T 0 (0, [(0, .inr (.inr (1, k, 0))), (1, .inr (.inr (2, j, 0))), (2, .inl (nI c))], [], h) _
  refine jt_go jm_m0 0 7 (f' := (11, [(0, .inr (.inr (1, k, 0))), (1, .inr (.inr (2, j, 0))), (2, .inl (nI c))], [.inl (h (2, j, 3) (nI c).toNatClampNeg), .inr (.inr (6, j, 0)), .inr (.inr (2, j, 0))], h)) (P := vp_in (nI c) 6 ∧ True) rfl ⟨(vp_in_nI (by omega) (by decide)), trivial⟩ ?_
  refine jt_ti (show (h (2, j, 3) (nI c).toNatClampNeg) = nI (g (38 + 5 * c)) from jf_at R (c := c) (nI_clamp (by omega)) (by omega)) ?_
  have bq1 := jw_at W (c := c) (by omega)
  refine jt_callp (w := .inl (nI (sp_rich g 4 (g (38 + 5 * c)) 16))) jm_m0 7 (mi' := 32) (as := [.inr (.inr (2, j, 0)), .inr (.inr (6, j, 0)), .inl (nI (g (38 + 5 * c)))]) (rest := []) (nxt := 14) rfl rfl jm_m32 rfl rfl (ta_rich (fun p hp => R.2.2.2.2.2.1 p hp) (fun p hp => jw_fish W hp) (by omega)) ?_
  refine jt_iret jm_m0 8 rfl ?_
  exact ⟨rfl, rfl⟩
set_option maxHeartbeats 4000000 in
set_option maxRecDepth 20000 in
theorem ta_goal1 {h : jm_M} {j : Nat} {g : Nat → Nat} (R : jf_rel h j g) (W : jw g) {c : Nat} (hc : c < g 0) {k : Nat} : jt_Pu 37 [.inr (.inr (1, k, 0)), .inr (.inr (2, j, 0)), .inl (nI c)] h (.inl (nI (sp_rich g 20 (g (38 + 5 * c)) 16))) := by
  have bn := jw_n W
  have bm := jw_m W
  have bt := jw_t W
  show jt_T 37 (0, [(0, .inr (.inr (1, k, 0))), (1, .inr (.inr (2, j, 0))), (2, .inl (nI c))], [], h) _
  refine jt_go jm_m37 0 7 (f' := (11, [(0, .inr (.inr (1, k, 0))), (1, .inr (.inr (2, j, 0))), (2, .inl (nI c))], [.inl (h (2, j, 3) (nI c).toNatClampNeg), .inr (.inr (6, j, 1)), .inr (.inr (2, j, 0))], h)) (P := vp_in (nI c) 6 ∧ True) rfl ⟨(vp_in_nI (by omega) (by decide)), trivial⟩ ?_
  refine jt_ti (show (h (2, j, 3) (nI c).toNatClampNeg) = nI (g (38 + 5 * c)) from jf_at R (c := c) (nI_clamp (by omega)) (by omega)) ?_
  have bq1 := jw_at W (c := c) (by omega)
  refine jt_callp (w := .inl (nI (sp_rich g 20 (g (38 + 5 * c)) 16))) jm_m37 7 (mi' := 32) (as := [.inr (.inr (2, j, 0)), .inr (.inr (6, j, 1)), .inl (nI (g (38 + 5 * c)))]) (rest := []) (nxt := 14) rfl rfl jm_m32 rfl rfl (ta_rich (fun p hp => R.2.2.2.2.2.2.1 p hp) (fun p hp => jw_mice W hp) (by omega)) ?_
  refine jt_iret jm_m37 8 rfl ?_
  exact ⟨rfl, rfl⟩
set_option maxHeartbeats 4000000 in
set_option maxRecDepth 20000 in
theorem ta_goal2 {h : jm_M} {j : Nat} {g : Nat → Nat} (R : jf_rel h j g) (W : jw g) {c : Nat} (hc : c < g 0) {k : Nat} : jt_Pu 66 [.inr (.inr (1, k, 0)), .inr (.inr (2, j, 0)), .inl (nI c)] h (.inl (nI (g (38 + 5 * (sp_near g c (g 0)).1)))) := by
  have bn := jw_n W
  have bm := jw_m W
  have bt := jw_t W
  show jt_T 66 (0, [(0, .inr (.inr (1, k, 0))), (1, .inr (.inr (2, j, 0))), (2, .inl (nI c))], [], h) _
  refine jt_go jm_m66 0 2 (f' := (2, [(0, .inr (.inr (1, k, 0))), (1, .inr (.inr (2, j, 0))), (2, .inl (nI c))], [.inl (nI c), .inr (.inr (2, j, 0))], h)) (P := True) rfl trivial ?_
  refine jt_callp (w := .inl (nI (g (38 + 5 * (sp_near g c (g 0)).1)))) jm_m66 2 (mi' := 33) (as := [.inr (.inr (2, j, 0)), .inl (nI c)]) (rest := []) (nxt := 5) rfl rfl jm_m33 rfl rfl (ta_near R W hc) ?_
  refine jt_iret jm_m66 3 rfl ?_
  exact ⟨rfl, rfl⟩
set_option maxHeartbeats 4000000 in
set_option maxRecDepth 20000 in
theorem ta_goal3 {h : jm_M} {j : Nat} {g : Nat → Nat} (R : jf_rel h j g) (W : jw g) {c : Nat} (hc : c < g 0) {k : Nat} : jt_Pu 70 [.inr (.inr (1, k, 0)), .inr (.inr (2, j, 0)), .inl (nI c)] h (.inl (nI (g (38 + 5 * c)))) := by
  have bn := jw_n W
  have bm := jw_m W
  have bt := jw_t W
  show jt_T 70 (0, [(0, .inr (.inr (1, k, 0))), (1, .inr (.inr (2, j, 0))), (2, .inl (nI c))], [], h) _
  refine jt_go jm_m70 0 4 (f' := (6, [(0, .inr (.inr (1, k, 0))), (1, .inr (.inr (2, j, 0))), (2, .inl (nI c))], [.inl (h (2, j, 3) (nI c).toNatClampNeg)], h)) (P := vp_in (nI c) 6 ∧ True) rfl ⟨(vp_in_nI (by omega) (by decide)), trivial⟩ ?_
  refine jt_ti (show (h (2, j, 3) (nI c).toNatClampNeg) = nI (g (38 + 5 * c)) from jf_at R (c := c) (nI_clamp (by omega)) (by omega)) ?_
  have bq1 := jw_at W (c := c) (by omega)
  refine jt_iret jm_m70 4 rfl ?_
  exact ⟨rfl, rfl⟩
set_option maxHeartbeats 4000000 in
set_option maxRecDepth 20000 in
theorem ta_goal4 {h : jm_M} {j : Nat} {g : Nat → Nat} (R : jf_rel h j g) (W : jw g) {c : Nat} (hc : c < g 0) {k : Nat} : jt_Pu 34 [.inr (.inr (1, k, 0)), .inr (.inr (2, j, 0)), .inl (nI c)] h (.inl (nI (if g 2 % 2 = 0 then 15 - g (38 + 5 * c) else g (38 + 5 * c)))) := by
  have bn := jw_n W
  have bm := jw_m W
  have bt := jw_t W
  show jt_T 34 (0, [(0, .inr (.inr (1, k, 0))), (1, .inr (.inr (2, j, 0))), (2, .inl (nI c))], [], h) _
  refine jt_go jm_m34 0 2 (f' := (4, [(0, .inr (.inr (1, k, 0))), (1, .inr (.inr (2, j, 0))), (2, .inl (nI c))], [.inl (h (2, j, 0) 11)], h)) (P := True) rfl trivial ?_
  refine jt_ti (show (h (2, j, 0) 11) = nI (g 2) from jf_hour R) ?_
  have bq1 := jw_t W
  refine jt_go jm_m34 2 2 (f' := (6, [(0, .inr (.inr (1, k, 0))), (1, .inr (.inr (2, j, 0))), (2, .inl (nI c))], [.inl ((nI (g 2)) - (nI (g 2)) / (nI 2) * (nI 2))], h)) (P := ¬ (nI 2) = 0 ∧ True) rfl ⟨(by decide), trivial⟩ ?_
  refine jt_ti (show ((nI (g 2)) - (nI (g 2)) / (nI 2) * (nI 2)) = nI (g 2 % 2) from jx_r2 _ bt) ?_
  refine jt_nifne jm_m34 4 (by omega) (tgt := 21) (nxt := 9) rfl rfl rfl (fun c6 => ?_) (fun c6 => ?_)
  · refine jt_go jm_m34 12 4 (f' := (27, [(0, .inr (.inr (1, k, 0))), (1, .inr (.inr (2, j, 0))), (2, .inl (nI c))], [.inl (h (2, j, 3) (nI c).toNatClampNeg)], h)) (P := vp_in (nI c) 6 ∧ True) rfl ⟨(vp_in_nI (by omega) (by decide)), trivial⟩ ?_
    refine jt_ti (show (h (2, j, 3) (nI c).toNatClampNeg) = nI (g (38 + 5 * c)) from jf_at R (c := c) (nI_clamp (by omega)) (by omega)) ?_
    have bq2 := jw_at W (c := c) (by omega)
    refine jt_iret jm_m34 16 rfl ?_
    exact ⟨jt_ln (by rw [if_neg c6]), rfl⟩
  · refine jt_go jm_m34 5 5 (f' := (17, [(0, .inr (.inr (1, k, 0))), (1, .inr (.inr (2, j, 0))), (2, .inl (nI c))], [.inl (h (2, j, 3) (nI c).toNatClampNeg), .inl (nI 15)], h)) (P := vp_in (nI c) 6 ∧ True) rfl ⟨(vp_in_nI (by omega) (by decide)), trivial⟩ ?_
    refine jt_ti (show (h (2, j, 3) (nI c).toNatClampNeg) = nI (g (38 + 5 * c)) from jf_at R (c := c) (nI_clamp (by omega)) (by omega)) ?_
    have bq3 := jw_at W (c := c) (by omega)
    refine jt_go jm_m34 10 1 (f' := (18, [(0, .inr (.inr (1, k, 0))), (1, .inr (.inr (2, j, 0))), (2, .inl (nI c))], [.inl ((nI 15) - (nI (g (38 + 5 * c))))], h)) (P := True) rfl trivial ?_
    refine jt_ti (show ((nI 15) - (nI (g (38 + 5 * c)))) = nI (15 - g (38 + 5 * c)) from nI_subN (by omega)) ?_
    refine jt_go jm_m34 11 1 (f' := (27, [(0, .inr (.inr (1, k, 0))), (1, .inr (.inr (2, j, 0))), (2, .inl (nI c))], [.inl (nI (15 - g (38 + 5 * c)))], h)) (P := True) rfl trivial ?_
    refine jt_iret jm_m34 16 rfl ?_
    exact ⟨jt_ln (by rw [if_pos c6]), rfl⟩
set_option maxHeartbeats 4000000 in
set_option maxRecDepth 20000 in
theorem ta_goal5 {h : jm_M} {j : Nat} {g : Nat → Nat} (R : jf_rel h j g) (W : jw g) {c : Nat} (hc : c < g 0) : jt_Pu 49 [.inr (.inr (1, 5, 0)), .inr (.inr (2, j, 0)), .inl (nI c)] h (.inl (nI (if 20 ≤ g 2 ∨ g 2 ≤ 4 then sp_rich g 4 (g (38 + 5 * c)) 16 else g (38 + 5 * c)))) := by
  have bn := jw_n W
  have bm := jw_m W
  have bt := jw_t W
  show jt_T 49 (0, [(0, .inr (.inr (1, 5, 0))), (1, .inr (.inr (2, j, 0))), (2, .inl (nI c))], [], h) _
  refine jt_go jm_m49 0 2 (f' := (4, [(0, .inr (.inr (1, 5, 0))), (1, .inr (.inr (2, j, 0))), (2, .inl (nI c))], [.inl (h (2, j, 0) 11)], h)) (P := True) rfl trivial ?_
  refine jt_ti (show (h (2, j, 0) 11) = nI (g 2) from jf_hour R) ?_
  have bq1 := jw_t W
  refine jt_go jm_m49 2 1 (f' := (6, [(0, .inr (.inr (1, 5, 0))), (1, .inr (.inr (2, j, 0))), (2, .inl (nI c))], [.inl (nI 20), .inl (nI (g 2))], h)) (P := True) rfl trivial ?_
  refine jt_nicge jm_m49 3 (a := g 2) (b := 20) (by omega) (by omega) (tgt := 17) (nxt := 9) rfl rfl rfl (fun c6 => ?_) (fun c6 => ?_)
  · refine jt_go jm_m49 8 2 (f' := (22, [(0, .inr (.inr (1, 5, 0))), (1, .inr (.inr (2, j, 0))), (2, .inl (nI c))], [.inl (nI 1)], h)) (P := True) rfl trivial ?_
    refine jt_go jm_m49 11 2 (f' := (24, [(3, .inl (nI 1)), (0, .inr (.inr (1, 5, 0))), (1, .inr (.inr (2, j, 0))), (2, .inl (nI c))], [.inl (nI 1)], h)) (P := True) rfl trivial ?_
    refine jt_nifeq jm_m49 13 (by omega) (tgt := 44) (nxt := 27) rfl rfl rfl (fun c24 => ?_) (fun c24 => ?_)
    · exact absurd c24 (by decide)
    · refine jt_go jm_m49 14 7 (f' := (38, [(3, .inl (nI 1)), (0, .inr (.inr (1, 5, 0))), (1, .inr (.inr (2, j, 0))), (2, .inl (nI c))], [.inl (h (2, j, 3) (nI c).toNatClampNeg), .inr (.inr (6, j, 0)), .inr (.inr (2, j, 0))], h)) (P := vp_in (nI c) 6 ∧ True) rfl ⟨(vp_in_nI (by omega) (by decide)), trivial⟩ ?_
      refine jt_ti (show (h (2, j, 3) (nI c).toNatClampNeg) = nI (g (38 + 5 * c)) from jf_at R (c := c) (nI_clamp (by omega)) (by omega)) ?_
      have bq2 := jw_at W (c := c) (by omega)
      refine jt_callp (w := .inl (nI (sp_rich g 4 (g (38 + 5 * c)) 16))) jm_m49 21 (mi' := 32) (as := [.inr (.inr (2, j, 0)), .inr (.inr (6, j, 0)), .inl (nI (g (38 + 5 * c)))]) (rest := []) (nxt := 41) rfl rfl jm_m32 rfl rfl (ta_rich (fun p hp => R.2.2.2.2.2.1 p hp) (fun p hp => jw_fish W hp) (by omega)) ?_
      refine jt_go jm_m49 22 1 (f' := (50, [(3, .inl (nI 1)), (0, .inr (.inr (1, 5, 0))), (1, .inr (.inr (2, j, 0))), (2, .inl (nI c))], [.inl (nI (sp_rich g 4 (g (38 + 5 * c)) 16))], h)) (P := True) rfl trivial ?_
      refine jt_iret jm_m49 27 rfl ?_
      exact ⟨jt_ln (by rw [if_pos (by omega)]), rfl⟩
  · refine jt_go jm_m49 4 2 (f' := (13, [(0, .inr (.inr (1, 5, 0))), (1, .inr (.inr (2, j, 0))), (2, .inl (nI c))], [.inl (h (2, j, 0) 11)], h)) (P := True) rfl trivial ?_
    refine jt_ti (show (h (2, j, 0) 11) = nI (g 2) from jf_hour R) ?_
    have bq3 := jw_t W
    refine jt_go jm_m49 6 1 (f' := (14, [(0, .inr (.inr (1, 5, 0))), (1, .inr (.inr (2, j, 0))), (2, .inl (nI c))], [.inl (nI 4), .inl (nI (g 2))], h)) (P := True) rfl trivial ?_
    refine jt_nicgt jm_m49 7 (a := g 2) (b := 4) (by omega) (by omega) (tgt := 21) (nxt := 17) rfl rfl rfl (fun c14 => ?_) (fun c14 => ?_)
    · refine jt_go jm_m49 10 3 (f' := (24, [(3, .inl (nI 0)), (0, .inr (.inr (1, 5, 0))), (1, .inr (.inr (2, j, 0))), (2, .inl (nI c))], [.inl (nI 0)], h)) (P := True) rfl trivial ?_
      refine jt_nifeq jm_m49 13 (by omega) (tgt := 44) (nxt := 27) rfl rfl rfl (fun c24 => ?_) (fun c24 => ?_)
      · refine jt_go jm_m49 23 3 (f' := (47, [(3, .inl (nI 0)), (0, .inr (.inr (1, 5, 0))), (1, .inr (.inr (2, j, 0))), (2, .inl (nI c))], [.inl (nI c), .inr (.inr (2, j, 0)), .inr (.inr (1, 5, 0))], h)) (P := True) rfl trivial ?_
        refine jt_callp (w := .inl (nI (g (38 + 5 * c)))) jm_m49 26 (mi' := 70) (as := [.inr (.inr (1, 5, 0)), .inr (.inr (2, j, 0)), .inl (nI c)]) (rest := []) (nxt := 50) rfl rfl jm_m70 rfl rfl (ta_goal3 R W hc) ?_
        refine jt_iret jm_m49 27 rfl ?_
        exact ⟨jt_ln (by rw [if_neg (by omega)]), rfl⟩
      · exact absurd c24 (by decide)
    · refine jt_go jm_m49 8 2 (f' := (22, [(0, .inr (.inr (1, 5, 0))), (1, .inr (.inr (2, j, 0))), (2, .inl (nI c))], [.inl (nI 1)], h)) (P := True) rfl trivial ?_
      refine jt_go jm_m49 11 2 (f' := (24, [(3, .inl (nI 1)), (0, .inr (.inr (1, 5, 0))), (1, .inr (.inr (2, j, 0))), (2, .inl (nI c))], [.inl (nI 1)], h)) (P := True) rfl trivial ?_
      refine jt_nifeq jm_m49 13 (by omega) (tgt := 44) (nxt := 27) rfl rfl rfl (fun c24 => ?_) (fun c24 => ?_)
      · exact absurd c24 (by decide)
      · refine jt_go jm_m49 14 7 (f' := (38, [(3, .inl (nI 1)), (0, .inr (.inr (1, 5, 0))), (1, .inr (.inr (2, j, 0))), (2, .inl (nI c))], [.inl (h (2, j, 3) (nI c).toNatClampNeg), .inr (.inr (6, j, 0)), .inr (.inr (2, j, 0))], h)) (P := vp_in (nI c) 6 ∧ True) rfl ⟨(vp_in_nI (by omega) (by decide)), trivial⟩ ?_
        refine jt_ti (show (h (2, j, 3) (nI c).toNatClampNeg) = nI (g (38 + 5 * c)) from jf_at R (c := c) (nI_clamp (by omega)) (by omega)) ?_
        have bq4 := jw_at W (c := c) (by omega)
        refine jt_callp (w := .inl (nI (sp_rich g 4 (g (38 + 5 * c)) 16))) jm_m49 21 (mi' := 32) (as := [.inr (.inr (2, j, 0)), .inr (.inr (6, j, 0)), .inl (nI (g (38 + 5 * c)))]) (rest := []) (nxt := 41) rfl rfl jm_m32 rfl rfl (ta_rich (fun p hp => R.2.2.2.2.2.1 p hp) (fun p hp => jw_fish W hp) (by omega)) ?_
        refine jt_go jm_m49 22 1 (f' := (50, [(3, .inl (nI 1)), (0, .inr (.inr (1, 5, 0))), (1, .inr (.inr (2, j, 0))), (2, .inl (nI c))], [.inl (nI (sp_rich g 4 (g (38 + 5 * c)) 16))], h)) (P := True) rfl trivial ?_
        refine jt_iret jm_m49 27 rfl ?_
        exact ⟨jt_ln (by rw [if_pos (by omega)]), rfl⟩
set_option maxHeartbeats 4000000 in
set_option maxRecDepth 20000 in
theorem ta_goalOf {h : jm_M} {j : Nat} {g : Nat → Nat} (R : jf_rel h j g) (W : jw g) {c : Nat} (hc : c < g 0) : jt_Pu 24 [.inr (.inr (2, j, 0)), .inl (nI c)] h (.inl (nI (sp_goal g c))) := by
  have bn := jw_n W
  have bm := jw_m W
  have bt := jw_t W
  show jt_T 24 (0, [(0, .inr (.inr (2, j, 0))), (1, .inl (nI c))], [], h) _
  refine jt_go jm_m24 0 6 (f' := (10, [(0, .inr (.inr (2, j, 0))), (1, .inl (nI c))], [.inl (h (2, j, 1) (nI c).toNatClampNeg), .inr (.inr (0, 0, 1))], h)) (P := vp_in (nI c) 6 ∧ True) rfl ⟨(vp_in_nI (by omega) (by decide)), trivial⟩ ?_
  refine jt_ti (show (h (2, j, 1) (nI c).toNatClampNeg) = nI (g (36 + 5 * c)) from jf_kind R (c := c) (nI_clamp (by omega)) (by omega)) ?_
  have bq1 := jw_kind W (c := c) (by omega)
  refine jt_go jm_m24 6 1 (f' := (11, [(0, .inr (.inr (2, j, 0))), (1, .inl (nI c))], [.inr (.inr (1, (nI (g (36 + 5 * c))).toNatClampNeg, 0))], h)) (P := vp_in (nI (g (36 + 5 * c))) 8 ∧ True) rfl ⟨(vp_in_nI (by omega) (by decide)), trivial⟩ ?_
  obtain ⟨k1, ek1⟩ : ∃ k : Nat, k = g (36 + 5 * c) := ⟨_, rfl⟩
  refine jt_tr (show ((1, (nI (g (36 + 5 * c))).toNatClampNeg, 0) : jm_K) = (1, k1, 0) by rw [ek1, nI_clamp (by omega)]) ?_
  refine jt_go jm_m24 7 2 (f' := (13, [(0, .inr (.inr (2, j, 0))), (1, .inl (nI c))], [.inl (nI c), .inr (.inr (2, j, 0)), .inr (.inr (1, k1, 0))], h)) (P := True) rfl trivial ?_
  rcases jt_k8 (n := k1) (by omega) with rfl | rfl | rfl | rfl | rfl | rfl | rfl | rfl
  · refine jt_callp (w := .inl (nI (sp_rich g 4 (g (38 + 5 * c)) 16))) jm_m24 9 (mi' := 0) (as := [.inr (.inr (1, 0, 0)), .inr (.inr (2, j, 0)), .inl (nI c)]) (rest := []) (nxt := 16) rfl rfl jm_m0 rfl rfl (ta_goal0 R W hc) ?_
    refine jt_iret jm_m24 10 rfl ?_
    exact ⟨jt_ln (by unfold sp_goal; rw [← ek1]; first | done | rfl), rfl⟩
  · refine jt_callp (w := .inl (nI (sp_rich g 20 (g (38 + 5 * c)) 16))) jm_m24 9 (mi' := 37) (as := [.inr (.inr (1, 1, 0)), .inr (.inr (2, j, 0)), .inl (nI c)]) (rest := []) (nxt := 16) rfl rfl jm_m37 rfl rfl (ta_goal1 R W hc) ?_
    refine jt_iret jm_m24 10 rfl ?_
    exact ⟨jt_ln (by unfold sp_goal; rw [← ek1]; first | done | rfl), rfl⟩
  · refine jt_callp (w := .inl (nI (g (38 + 5 * (sp_near g c (g 0)).1)))) jm_m24 9 (mi' := 66) (as := [.inr (.inr (1, 2, 0)), .inr (.inr (2, j, 0)), .inl (nI c)]) (rest := []) (nxt := 16) rfl rfl jm_m66 rfl rfl (ta_goal2 R W hc) ?_
    refine jt_iret jm_m24 10 rfl ?_
    exact ⟨jt_ln (by unfold sp_goal; rw [← ek1]; first | done | rfl), rfl⟩
  · refine jt_callp (w := .inl (nI (g (38 + 5 * c)))) jm_m24 9 (mi' := 70) (as := [.inr (.inr (1, 3, 0)), .inr (.inr (2, j, 0)), .inl (nI c)]) (rest := []) (nxt := 16) rfl rfl jm_m70 rfl rfl (ta_goal3 R W hc) ?_
    refine jt_iret jm_m24 10 rfl ?_
    exact ⟨jt_ln (by unfold sp_goal; rw [← ek1]; first | done | rfl), rfl⟩
  · refine jt_callp (w := .inl (nI (if g 2 % 2 = 0 then 15 - g (38 + 5 * c) else g (38 + 5 * c)))) jm_m24 9 (mi' := 34) (as := [.inr (.inr (1, 4, 0)), .inr (.inr (2, j, 0)), .inl (nI c)]) (rest := []) (nxt := 16) rfl rfl jm_m34 rfl rfl (ta_goal4 R W hc) ?_
    refine jt_iret jm_m24 10 rfl ?_
    exact ⟨jt_ln (by unfold sp_goal; rw [← ek1]; first | done | rfl), rfl⟩
  · refine jt_callp (w := .inl (nI (if 20 ≤ g 2 ∨ g 2 ≤ 4 then sp_rich g 4 (g (38 + 5 * c)) 16 else g (38 + 5 * c)))) jm_m24 9 (mi' := 49) (as := [.inr (.inr (1, 5, 0)), .inr (.inr (2, j, 0)), .inl (nI c)]) (rest := []) (nxt := 16) rfl rfl jm_m49 rfl rfl (ta_goal5 R W hc) ?_
    refine jt_iret jm_m24 10 rfl ?_
    exact ⟨jt_ln (by unfold sp_goal; rw [← ek1]; first | done | rfl), rfl⟩
  · refine jt_callp (w := .inl (nI (g (38 + 5 * (sp_near g c (g 0)).1)))) jm_m24 9 (mi' := 66) (as := [.inr (.inr (1, 6, 0)), .inr (.inr (2, j, 0)), .inl (nI c)]) (rest := []) (nxt := 16) rfl rfl jm_m66 rfl rfl (ta_goal2 R W hc) ?_
    refine jt_iret jm_m24 10 rfl ?_
    exact ⟨jt_ln (by unfold sp_goal; rw [← ek1]; first | done | rfl), rfl⟩
  · refine jt_callp (w := .inl (nI (sp_rich g 4 (g (38 + 5 * c)) 16))) jm_m24 9 (mi' := 0) (as := [.inr (.inr (1, 7, 0)), .inr (.inr (2, j, 0)), .inl (nI c)]) (rest := []) (nxt := 16) rfl rfl jm_m0 rfl rfl (ta_goal0 R W hc) ?_
    refine jt_iret jm_m24 10 rfl ?_
    exact ⟨jt_ln (by unfold sp_goal; rw [← ek1]; first | done | rfl), rfl⟩
set_option maxHeartbeats 4000000 in
set_option maxRecDepth 20000 in
theorem ta_paceOf {h : jm_M} {j : Nat} {g : Nat → Nat} (R : jf_rel h j g) (W : jw g) {c t : Nat} (hc : c < 6) (ht : t < 24) : jt_Pu 25 [.inr (.inr (2, j, 0)), .inl (nI c), .inl (nI t)] h (.inl (nI (sp_pace (g (36 + 5 * c)) (g (37 + 5 * c)) t))) := by
  show jt_T 25 (0, [(0, .inr (.inr (2, j, 0))), (1, .inl (nI c)), (2, .inl (nI t))], [], h) _
  refine jt_go jm_m25 0 6 (f' := (10, [(0, .inr (.inr (2, j, 0))), (1, .inl (nI c)), (2, .inl (nI t))], [.inl (h (2, j, 1) (nI c).toNatClampNeg), .inr (.inr (0, 0, 1))], h)) (P := vp_in (nI c) 6 ∧ True) rfl ⟨(vp_in_nI (by omega) (by decide)), trivial⟩ ?_
  refine jt_ti (show (h (2, j, 1) (nI c).toNatClampNeg) = nI (g (36 + 5 * c)) from jf_kind R (c := c) (nI_clamp (by omega)) (by omega)) ?_
  have bq1 := jw_kind W (c := c) (by omega)
  refine jt_go jm_m25 6 1 (f' := (11, [(0, .inr (.inr (2, j, 0))), (1, .inl (nI c)), (2, .inl (nI t))], [.inr (.inr (1, (nI (g (36 + 5 * c))).toNatClampNeg, 0))], h)) (P := vp_in (nI (g (36 + 5 * c))) 8 ∧ True) rfl ⟨(vp_in_nI (by omega) (by decide)), trivial⟩ ?_
  obtain ⟨k1, ek1⟩ : ∃ k : Nat, k = g (36 + 5 * c) := ⟨_, rfl⟩
  refine jt_tr (show ((1, (nI (g (36 + 5 * c))).toNatClampNeg, 0) : jm_K) = (1, k1, 0) by rw [ek1, nI_clamp (by omega)]) ?_
  refine jt_go jm_m25 7 4 (f' := (17, [(0, .inr (.inr (2, j, 0))), (1, .inl (nI c)), (2, .inl (nI t))], [.inl (h (2, j, 2) (nI c).toNatClampNeg), .inr (.inr (1, k1, 0))], h)) (P := vp_in (nI c) 6 ∧ True) rfl ⟨(vp_in_nI (by omega) (by decide)), trivial⟩ ?_
  refine jt_ti (show (h (2, j, 2) (nI c).toNatClampNeg) = nI (g (37 + 5 * c)) from jf_fig R (c := c) (nI_clamp (by omega)) (by omega)) ?_
  have bq2 := jw_fig W (c := c) (by omega)
  refine jt_go jm_m25 11 1 (f' := (18, [(0, .inr (.inr (2, j, 0))), (1, .inl (nI c)), (2, .inl (nI t))], [.inl (nI t), .inl (nI (g (37 + 5 * c))), .inr (.inr (1, k1, 0))], h)) (P := True) rfl trivial ?_
  rcases jt_k8 (n := k1) (by omega) with rfl | rfl | rfl | rfl | rfl | rfl | rfl | rfl
  · refine jt_callp (w := .inl (nI (1 + g (37 + 5 * c) / 4))) jm_m25 12 (mi' := 1) (as := [.inr (.inr (1, 0, 0)), .inl (nI (g (37 + 5 * c))), .inl (nI t)]) (rest := []) (nxt := 21) rfl rfl jm_m1 rfl rfl (ta_pace0 (by omega) (by omega)) ?_
    refine jt_iret jm_m25 13 rfl ?_
    exact ⟨jt_ln (by rw [← ek1]; first | done | rfl), rfl⟩
  · refine jt_callp (w := .inl (nI (1 + g (37 + 5 * c) / 4))) jm_m25 12 (mi' := 1) (as := [.inr (.inr (1, 1, 0)), .inl (nI (g (37 + 5 * c))), .inl (nI t)]) (rest := []) (nxt := 21) rfl rfl jm_m1 rfl rfl (ta_pace0 (by omega) (by omega)) ?_
    refine jt_iret jm_m25 13 rfl ?_
    exact ⟨jt_ln (by rw [← ek1]; first | done | rfl), rfl⟩
  · refine jt_callp (w := .inl (nI (1 + g (37 + 5 * c) / 4 + 1))) jm_m25 12 (mi' := 67) (as := [.inr (.inr (1, 2, 0)), .inl (nI (g (37 + 5 * c))), .inl (nI t)]) (rest := []) (nxt := 21) rfl rfl jm_m67 rfl rfl (ta_pace2_2 (by omega) (by omega)) ?_
    refine jt_iret jm_m25 13 rfl ?_
    exact ⟨jt_ln (by rw [← ek1]; first | done | rfl), rfl⟩
  · refine jt_callp (w := .inl (nI (1 + g (37 + 5 * c) / 4))) jm_m25 12 (mi' := 1) (as := [.inr (.inr (1, 3, 0)), .inl (nI (g (37 + 5 * c))), .inl (nI t)]) (rest := []) (nxt := 21) rfl rfl jm_m1 rfl rfl (ta_pace0 (by omega) (by omega)) ?_
    refine jt_iret jm_m25 13 rfl ?_
    exact ⟨jt_ln (by rw [← ek1]; first | done | rfl), rfl⟩
  · refine jt_callp (w := .inl (nI 3)) jm_m25 12 (mi' := 35) (as := [.inr (.inr (1, 4, 0)), .inl (nI (g (37 + 5 * c))), .inl (nI t)]) (rest := []) (nxt := 21) rfl rfl jm_m35 rfl rfl (ta_pace4 (f := g (37 + 5 * c)) (t := t) (by omega) (by omega)) ?_
    refine jt_iret jm_m25 13 rfl ?_
    exact ⟨jt_ln (by rw [← ek1]; first | done | rfl), rfl⟩
  · refine jt_callp (w := .inl (nI (1 + g (37 + 5 * c) / 4))) jm_m25 12 (mi' := 1) (as := [.inr (.inr (1, 5, 0)), .inl (nI (g (37 + 5 * c))), .inl (nI t)]) (rest := []) (nxt := 21) rfl rfl jm_m1 rfl rfl (ta_pace0 (by omega) (by omega)) ?_
    refine jt_iret jm_m25 13 rfl ?_
    exact ⟨jt_ln (by rw [← ek1]; first | done | rfl), rfl⟩
  · refine jt_callp (w := .inl (nI (2 * (1 + g (37 + 5 * c) / 4 + 1)))) jm_m25 12 (mi' := 53) (as := [.inr (.inr (1, 6, 0)), .inl (nI (g (37 + 5 * c))), .inl (nI t)]) (rest := []) (nxt := 21) rfl rfl jm_m53 rfl rfl (ta_pace6 (by omega) (by omega)) ?_
    refine jt_iret jm_m25 13 rfl ?_
    exact ⟨jt_ln (by rw [← ek1]; first | done | rfl), rfl⟩
  · refine jt_callp (w := .inl (nI (if t % 3 = 0 then 1 else 0))) jm_m25 12 (mi' := 39) (as := [.inr (.inr (1, 7, 0)), .inl (nI (g (37 + 5 * c))), .inl (nI t)]) (rest := []) (nxt := 21) rfl rfl jm_m39 rfl rfl (ta_pace7 (f := g (37 + 5 * c)) (t := t) (by omega) (by omega)) ?_
    refine jt_iret jm_m25 13 rfl ?_
    exact ⟨jt_ln (by rw [← ek1]; first | done | rfl), rfl⟩
set_option maxHeartbeats 4000000 in
set_option maxRecDepth 20000 in
theorem ta_read {h : jm_M} {j : Nat} {g : Nat → Nat} (R : jf_rel h j g) (W : jw g) {c : Nat} (hc : c < 6) : jt_Pu 26 [.inr (.inr (2, j, 0)), .inl (nI c)] h (.inl (jm_b (sp_read g c))) := by
  show jt_T 26 (0, [(0, .inr (.inr (2, j, 0))), (1, .inl (nI c))], [], h) _
  refine jt_go jm_m26 0 4 (f' := (6, [(0, .inr (.inr (2, j, 0))), (1, .inl (nI c))], [.inl (h (2, j, 5) (nI c).toNatClampNeg)], h)) (P := vp_in (nI c) 6 ∧ True) rfl ⟨(vp_in_nI (by omega) (by decide)), trivial⟩ ?_
  refine jt_ti (show (h (2, j, 5) (nI c).toNatClampNeg) = nI (g (40 + 5 * c)) from jf_name R (c := c) (nI_clamp (by omega)) (by omega)) ?_
  have bq1 := jw_name W (c := c) (by omega)
  refine jt_go jm_m26 4 1 (f' := (8, [(0, .inr (.inr (2, j, 0))), (1, .inl (nI c))], [.inl (nI 9), .inl (nI (g (40 + 5 * c)))], h)) (P := True) rfl trivial ?_
  refine jt_niceq jm_m26 5 (a := g (40 + 5 * c)) (b := 9) (by omega) (by omega) (tgt := 38) (nxt := 11) rfl rfl rfl (fun c8 => ?_) (fun c8 => ?_)
  · refine jt_go jm_m26 21 1 (f' := (39, [(0, .inr (.inr (2, j, 0))), (1, .inl (nI c))], [.inl (nI 0)], h)) (P := True) rfl trivial ?_
    refine jt_zret jm_m26 22 rfl (Or.inl rfl) ?_
    exact ⟨jt_lb0 (fun z => z.1 c8), rfl⟩
  · refine jt_go jm_m26 6 6 (f' := (21, [(0, .inr (.inr (2, j, 0))), (1, .inl (nI c))], [.inl (h (2, j, 1) (nI c).toNatClampNeg), .inr (.inr (0, 0, 1))], h)) (P := vp_in (nI c) 6 ∧ True) rfl ⟨(vp_in_nI (by omega) (by decide)), trivial⟩ ?_
    refine jt_ti (show (h (2, j, 1) (nI c).toNatClampNeg) = nI (g (36 + 5 * c)) from jf_kind R (c := c) (nI_clamp (by omega)) (by omega)) ?_
    have bq2 := jw_kind W (c := c) (by omega)
    refine jt_go jm_m26 12 1 (f' := (22, [(0, .inr (.inr (2, j, 0))), (1, .inl (nI c))], [.inr (.inr (1, (nI (g (36 + 5 * c))).toNatClampNeg, 0))], h)) (P := vp_in (nI (g (36 + 5 * c))) 8 ∧ True) rfl ⟨(vp_in_nI (by omega) (by decide)), trivial⟩ ?_
    obtain ⟨k1, ek1⟩ : ∃ k : Nat, k = g (36 + 5 * c) := ⟨_, rfl⟩
    refine jt_tr (show ((1, (nI (g (36 + 5 * c))).toNatClampNeg, 0) : jm_K) = (1, k1, 0) by rw [ek1, nI_clamp (by omega)]) ?_
    refine jt_go jm_m26 13 4 (f' := (28, [(0, .inr (.inr (2, j, 0))), (1, .inl (nI c))], [.inl (h (2, j, 4) (nI c).toNatClampNeg), .inr (.inr (1, k1, 0))], h)) (P := vp_in (nI c) 6 ∧ True) rfl ⟨(vp_in_nI (by omega) (by decide)), trivial⟩ ?_
    refine jt_ti (show (h (2, j, 4) (nI c).toNatClampNeg) = nI (g (39 + 5 * c)) from jf_hair R (c := c) (nI_clamp (by omega)) (by omega)) ?_
    have bq3 := jw_hair W (c := c) (by omega)
    rcases jt_k8 (n := k1) (by omega) with rfl | rfl | rfl | rfl | rfl | rfl | rfl | rfl
    · refine jt_callp (w := .inl (jm_b (g (39 + 5 * c) < 48))) jm_m26 17 (mi' := 3) (as := [.inr (.inr (1, 0, 0)), .inl (nI (g (39 + 5 * c)))]) (rest := []) (nxt := 31) rfl rfl jm_m3 rfl rfl (ta_skin0 (by omega)) ?_
      refine jt_ifbeq jm_m26 18 (tgt := 38) (nxt := 34) rfl rfl rfl (fun c31 => ?_) (fun c31 => ?_)
      · refine jt_go jm_m26 21 1 (f' := (39, [(0, .inr (.inr (2, j, 0))), (1, .inl (nI c))], [.inl (nI 0)], h)) (P := True) rfl trivial ?_
        refine jt_zret jm_m26 22 rfl (Or.inl rfl) ?_
        exact ⟨jt_lb0 (by omega), rfl⟩
      · refine jt_go jm_m26 19 2 (f' := (39, [(0, .inr (.inr (2, j, 0))), (1, .inl (nI c))], [.inl (nI 1)], h)) (P := True) rfl trivial ?_
        refine jt_zret jm_m26 22 rfl (Or.inr rfl) ?_
        exact ⟨jt_lb1 (⟨c8, by omega⟩), rfl⟩
    · refine jt_callp (w := .inl (jm_b (g (39 + 5 * c) < 48))) jm_m26 17 (mi' := 3) (as := [.inr (.inr (1, 1, 0)), .inl (nI (g (39 + 5 * c)))]) (rest := []) (nxt := 31) rfl rfl jm_m3 rfl rfl (ta_skin0 (by omega)) ?_
      refine jt_ifbeq jm_m26 18 (tgt := 38) (nxt := 34) rfl rfl rfl (fun c31 => ?_) (fun c31 => ?_)
      · refine jt_go jm_m26 21 1 (f' := (39, [(0, .inr (.inr (2, j, 0))), (1, .inl (nI c))], [.inl (nI 0)], h)) (P := True) rfl trivial ?_
        refine jt_zret jm_m26 22 rfl (Or.inl rfl) ?_
        exact ⟨jt_lb0 (by omega), rfl⟩
      · refine jt_go jm_m26 19 2 (f' := (39, [(0, .inr (.inr (2, j, 0))), (1, .inl (nI c))], [.inl (nI 1)], h)) (P := True) rfl trivial ?_
        refine jt_zret jm_m26 22 rfl (Or.inr rfl) ?_
        exact ⟨jt_lb1 (⟨c8, by omega⟩), rfl⟩
    · refine jt_callp (w := .inl (jm_b (g (39 + 5 * c) < 48))) jm_m26 17 (mi' := 3) (as := [.inr (.inr (1, 2, 0)), .inl (nI (g (39 + 5 * c)))]) (rest := []) (nxt := 31) rfl rfl jm_m3 rfl rfl (ta_skin0 (by omega)) ?_
      refine jt_ifbeq jm_m26 18 (tgt := 38) (nxt := 34) rfl rfl rfl (fun c31 => ?_) (fun c31 => ?_)
      · refine jt_go jm_m26 21 1 (f' := (39, [(0, .inr (.inr (2, j, 0))), (1, .inl (nI c))], [.inl (nI 0)], h)) (P := True) rfl trivial ?_
        refine jt_zret jm_m26 22 rfl (Or.inl rfl) ?_
        exact ⟨jt_lb0 (by omega), rfl⟩
      · refine jt_go jm_m26 19 2 (f' := (39, [(0, .inr (.inr (2, j, 0))), (1, .inl (nI c))], [.inl (nI 1)], h)) (P := True) rfl trivial ?_
        refine jt_zret jm_m26 22 rfl (Or.inr rfl) ?_
        exact ⟨jt_lb1 (⟨c8, by omega⟩), rfl⟩
    · refine jt_callp (w := .inl (jm_b (g (39 + 5 * c) < 48))) jm_m26 17 (mi' := 3) (as := [.inr (.inr (1, 3, 0)), .inl (nI (g (39 + 5 * c)))]) (rest := []) (nxt := 31) rfl rfl jm_m3 rfl rfl (ta_skin0 (by omega)) ?_
      refine jt_ifbeq jm_m26 18 (tgt := 38) (nxt := 34) rfl rfl rfl (fun c31 => ?_) (fun c31 => ?_)
      · refine jt_go jm_m26 21 1 (f' := (39, [(0, .inr (.inr (2, j, 0))), (1, .inl (nI c))], [.inl (nI 0)], h)) (P := True) rfl trivial ?_
        refine jt_zret jm_m26 22 rfl (Or.inl rfl) ?_
        exact ⟨jt_lb0 (by omega), rfl⟩
      · refine jt_go jm_m26 19 2 (f' := (39, [(0, .inr (.inr (2, j, 0))), (1, .inl (nI c))], [.inl (nI 1)], h)) (P := True) rfl trivial ?_
        refine jt_zret jm_m26 22 rfl (Or.inr rfl) ?_
        exact ⟨jt_lb1 (⟨c8, by omega⟩), rfl⟩
    · refine jt_callp (w := .inl (jm_b (g (39 + 5 * c) < 48))) jm_m26 17 (mi' := 3) (as := [.inr (.inr (1, 4, 0)), .inl (nI (g (39 + 5 * c)))]) (rest := []) (nxt := 31) rfl rfl jm_m3 rfl rfl (ta_skin0 (by omega)) ?_
      refine jt_ifbeq jm_m26 18 (tgt := 38) (nxt := 34) rfl rfl rfl (fun c31 => ?_) (fun c31 => ?_)
      · refine jt_go jm_m26 21 1 (f' := (39, [(0, .inr (.inr (2, j, 0))), (1, .inl (nI c))], [.inl (nI 0)], h)) (P := True) rfl trivial ?_
        refine jt_zret jm_m26 22 rfl (Or.inl rfl) ?_
        exact ⟨jt_lb0 (by omega), rfl⟩
      · refine jt_go jm_m26 19 2 (f' := (39, [(0, .inr (.inr (2, j, 0))), (1, .inl (nI c))], [.inl (nI 1)], h)) (P := True) rfl trivial ?_
        refine jt_zret jm_m26 22 rfl (Or.inr rfl) ?_
        exact ⟨jt_lb1 (⟨c8, by omega⟩), rfl⟩
    · refine jt_callp (w := .inl (nI 1)) jm_m26 17 (mi' := 51) (as := [.inr (.inr (1, 5, 0)), .inl (nI (g (39 + 5 * c)))]) (rest := []) (nxt := 31) rfl rfl jm_m51 rfl rfl (ta_skin5) ?_
      refine jt_nifeq jm_m26 18 (by omega) (tgt := 38) (nxt := 34) rfl rfl rfl (fun c31 => ?_) (fun c31 => ?_)
      · exact absurd c31 (by decide)
      · refine jt_go jm_m26 19 2 (f' := (39, [(0, .inr (.inr (2, j, 0))), (1, .inl (nI c))], [.inl (nI 1)], h)) (P := True) rfl trivial ?_
        refine jt_zret jm_m26 22 rfl (Or.inr rfl) ?_
        exact ⟨jt_lb1 (⟨c8, by omega⟩), rfl⟩
    · refine jt_callp (w := .inl (jm_b (g (39 + 5 * c) < 48))) jm_m26 17 (mi' := 3) (as := [.inr (.inr (1, 6, 0)), .inl (nI (g (39 + 5 * c)))]) (rest := []) (nxt := 31) rfl rfl jm_m3 rfl rfl (ta_skin0 (by omega)) ?_
      refine jt_ifbeq jm_m26 18 (tgt := 38) (nxt := 34) rfl rfl rfl (fun c31 => ?_) (fun c31 => ?_)
      · refine jt_go jm_m26 21 1 (f' := (39, [(0, .inr (.inr (2, j, 0))), (1, .inl (nI c))], [.inl (nI 0)], h)) (P := True) rfl trivial ?_
        refine jt_zret jm_m26 22 rfl (Or.inl rfl) ?_
        exact ⟨jt_lb0 (by omega), rfl⟩
      · refine jt_go jm_m26 19 2 (f' := (39, [(0, .inr (.inr (2, j, 0))), (1, .inl (nI c))], [.inl (nI 1)], h)) (P := True) rfl trivial ?_
        refine jt_zret jm_m26 22 rfl (Or.inr rfl) ?_
        exact ⟨jt_lb1 (⟨c8, by omega⟩), rfl⟩
    · refine jt_callp (w := .inl (jm_b (g (39 + 5 * c) < 48))) jm_m26 17 (mi' := 3) (as := [.inr (.inr (1, 7, 0)), .inl (nI (g (39 + 5 * c)))]) (rest := []) (nxt := 31) rfl rfl jm_m3 rfl rfl (ta_skin0 (by omega)) ?_
      refine jt_ifbeq jm_m26 18 (tgt := 38) (nxt := 34) rfl rfl rfl (fun c31 => ?_) (fun c31 => ?_)
      · refine jt_go jm_m26 21 1 (f' := (39, [(0, .inr (.inr (2, j, 0))), (1, .inl (nI c))], [.inl (nI 0)], h)) (P := True) rfl trivial ?_
        refine jt_zret jm_m26 22 rfl (Or.inl rfl) ?_
        exact ⟨jt_lb0 (by omega), rfl⟩
      · refine jt_go jm_m26 19 2 (f' := (39, [(0, .inr (.inr (2, j, 0))), (1, .inl (nI c))], [.inl (nI 1)], h)) (P := True) rfl trivial ?_
        refine jt_zret jm_m26 22 rfl (Or.inr rfl) ?_
        exact ⟨jt_lb1 (⟨c8, by omega⟩), rfl⟩
set_option maxHeartbeats 4000000 in
set_option maxRecDepth 20000 in
theorem ta_grow {h : jm_M} {j : Nat} {g : Nat → Nat} (R : jf_rel h j g) (W : jw g) {c : Nat} (hc : c < 6) : jt_T 21 (0, [(0, .inr (.inr (2, j, 0))), (1, .inl (nI c))], [], h) (fun u h' => u = none ∧ jf_rel h' j (sp_hair g c) ∧ jf_fc j h h') := by
  refine jt_go jm_m21 0 8 (f' := (13, [(0, .inr (.inr (2, j, 0))), (1, .inl (nI c))], [.inl (h (2, j, 4) (nI c).toNatClampNeg), .inl (nI 99), .inl (nI c), .inr (.inr (2, j, 4))], h)) (P := vp_in (nI c) 6 ∧ True) rfl ⟨(vp_in_nI (by omega) (by decide)), trivial⟩ ?_
  refine jt_ti (show (h (2, j, 4) (nI c).toNatClampNeg) = nI (g (39 + 5 * c)) from jf_hair R (c := c) (nI_clamp (by omega)) (by omega)) ?_
  have bq1 := jw_hair W (c := c) (by omega)
  refine jt_go jm_m21 8 6 (f' := (23, [(0, .inr (.inr (2, j, 0))), (1, .inl (nI c))], [.inl (h (2, j, 1) (nI c).toNatClampNeg), .inr (.inr (0, 0, 1)), .inl (nI (g (39 + 5 * c))), .inl (nI 99), .inl (nI c), .inr (.inr (2, j, 4))], h)) (P := vp_in (nI c) 6 ∧ True) rfl ⟨(vp_in_nI (by omega) (by decide)), trivial⟩ ?_
  refine jt_ti (show (h (2, j, 1) (nI c).toNatClampNeg) = nI (g (36 + 5 * c)) from jf_kind R (c := c) (nI_clamp (by omega)) (by omega)) ?_
  have bq2 := jw_kind W (c := c) (by omega)
  refine jt_go jm_m21 14 1 (f' := (24, [(0, .inr (.inr (2, j, 0))), (1, .inl (nI c))], [.inr (.inr (1, (nI (g (36 + 5 * c))).toNatClampNeg, 0)), .inl (nI (g (39 + 5 * c))), .inl (nI 99), .inl (nI c), .inr (.inr (2, j, 4))], h)) (P := vp_in (nI (g (36 + 5 * c))) 8 ∧ True) rfl ⟨(vp_in_nI (by omega) (by decide)), trivial⟩ ?_
  obtain ⟨k1, ek1⟩ : ∃ k : Nat, k = g (36 + 5 * c) := ⟨_, rfl⟩
  refine jt_tr (show ((1, (nI (g (36 + 5 * c))).toNatClampNeg, 0) : jm_K) = (1, k1, 0) by rw [ek1, nI_clamp (by omega)]) ?_
  rcases jt_k8 (n := k1) (by omega) with rfl | rfl | rfl | rfl | rfl | rfl | rfl | rfl
  · refine jt_callp (w := .inl (nI 1)) jm_m21 15 (mi' := 2) (as := [.inr (.inr (1, 0, 0))]) (rest := [.inl (nI (g (39 + 5 * c))), .inl (nI 99), .inl (nI c), .inr (.inr (2, j, 4))]) (nxt := 27) rfl rfl jm_m2 rfl rfl (ta_grow0 (f := 0) (t := 0) (by decide) (by decide)) ?_
    refine jt_go jm_m21 16 1 (f' := (28, [(0, .inr (.inr (2, j, 0))), (1, .inl (nI c))], [.inl ((nI (g (39 + 5 * c))) + (nI 1)), .inl (nI 99), .inl (nI c), .inr (.inr (2, j, 4))], h)) (P := True) rfl trivial ?_
    refine jt_ti (show ((nI (g (39 + 5 * c))) + (nI 1)) = nI (g (39 + 5 * c) + 1) from nI_add _ _) ?_
    refine jt_go jm_m21 17 1 (f' := (31, [(0, .inr (.inr (2, j, 0))), (1, .inl (nI c))], [.inl (if (nI (g (39 + 5 * c) + 1)) < (nI 99) then (nI (g (39 + 5 * c) + 1)) else (nI 99)), .inl (nI c), .inr (.inr (2, j, 4))], h)) (P := True) rfl trivial ?_
    refine jt_ti (show (if (nI (g (39 + 5 * c) + 1)) < (nI 99) then (nI (g (39 + 5 * c) + 1)) else (nI 99)) = nI (min 99 (g (39 + 5 * c) + 1)) from jx_min (by omega) (by omega)) ?_
    refine jt_goM jm_m21 18 1 (pc' := 32) (L' := [(0, .inr (.inr (2, j, 0))), (1, .inl (nI c))]) (st' := []) (m' := jm_set h (2, j, 4) (upd (h (2, j, 4)) (nI c).toNatClampNeg (nI (min 99 (g (39 + 5 * c) + 1))))) (P := vp_in (nI c) 6 ∧ True) rfl ⟨(vp_in_nI (by omega) (by decide)), trivial⟩ (fun h1 eh1 => ?_)
    have Fh1 : jf_fc j h h1 := by rw [eh1]; exact jf_fc_setA jf_fc_rf ⟨Or.inl rfl, rfl⟩ (by simp)
    obtain ⟨gh1, egh1⟩ : ∃ y, y = sp_up g (39 + 5 * c) (min 99 (g (39 + 5 * c) + 1)) := ⟨_, rfl⟩
    have Rh1 : jf_rel h1 j gh1 := by rw [eh1, egh1]; exact jf_set_hair R (c := c) (w := min 99 (g (39 + 5 * c) + 1)) (nI_clamp (by omega)) (by omega) rfl
    refine jt_vret jm_m21 19 rfl ?_
    refine ⟨rfl, ?_, Fh1⟩
    have e : gh1 = sp_hair g c := egh1.trans (by unfold sp_hair; rw [← ek1]; first | done | rfl)
    rw [← e]
    exact Rh1
  · refine jt_callp (w := .inl (nI 1)) jm_m21 15 (mi' := 2) (as := [.inr (.inr (1, 1, 0))]) (rest := [.inl (nI (g (39 + 5 * c))), .inl (nI 99), .inl (nI c), .inr (.inr (2, j, 4))]) (nxt := 27) rfl rfl jm_m2 rfl rfl (ta_grow0 (f := 0) (t := 0) (by decide) (by decide)) ?_
    refine jt_go jm_m21 16 1 (f' := (28, [(0, .inr (.inr (2, j, 0))), (1, .inl (nI c))], [.inl ((nI (g (39 + 5 * c))) + (nI 1)), .inl (nI 99), .inl (nI c), .inr (.inr (2, j, 4))], h)) (P := True) rfl trivial ?_
    refine jt_ti (show ((nI (g (39 + 5 * c))) + (nI 1)) = nI (g (39 + 5 * c) + 1) from nI_add _ _) ?_
    refine jt_go jm_m21 17 1 (f' := (31, [(0, .inr (.inr (2, j, 0))), (1, .inl (nI c))], [.inl (if (nI (g (39 + 5 * c) + 1)) < (nI 99) then (nI (g (39 + 5 * c) + 1)) else (nI 99)), .inl (nI c), .inr (.inr (2, j, 4))], h)) (P := True) rfl trivial ?_
    refine jt_ti (show (if (nI (g (39 + 5 * c) + 1)) < (nI 99) then (nI (g (39 + 5 * c) + 1)) else (nI 99)) = nI (min 99 (g (39 + 5 * c) + 1)) from jx_min (by omega) (by omega)) ?_
    refine jt_goM jm_m21 18 1 (pc' := 32) (L' := [(0, .inr (.inr (2, j, 0))), (1, .inl (nI c))]) (st' := []) (m' := jm_set h (2, j, 4) (upd (h (2, j, 4)) (nI c).toNatClampNeg (nI (min 99 (g (39 + 5 * c) + 1))))) (P := vp_in (nI c) 6 ∧ True) rfl ⟨(vp_in_nI (by omega) (by decide)), trivial⟩ (fun h2 eh2 => ?_)
    have Fh2 : jf_fc j h h2 := by rw [eh2]; exact jf_fc_setA jf_fc_rf ⟨Or.inl rfl, rfl⟩ (by simp)
    obtain ⟨gh2, egh2⟩ : ∃ y, y = sp_up g (39 + 5 * c) (min 99 (g (39 + 5 * c) + 1)) := ⟨_, rfl⟩
    have Rh2 : jf_rel h2 j gh2 := by rw [eh2, egh2]; exact jf_set_hair R (c := c) (w := min 99 (g (39 + 5 * c) + 1)) (nI_clamp (by omega)) (by omega) rfl
    refine jt_vret jm_m21 19 rfl ?_
    refine ⟨rfl, ?_, Fh2⟩
    have e : gh2 = sp_hair g c := egh2.trans (by unfold sp_hair; rw [← ek1]; first | done | rfl)
    rw [← e]
    exact Rh2
  · refine jt_callp (w := .inl (nI 1)) jm_m21 15 (mi' := 2) (as := [.inr (.inr (1, 2, 0))]) (rest := [.inl (nI (g (39 + 5 * c))), .inl (nI 99), .inl (nI c), .inr (.inr (2, j, 4))]) (nxt := 27) rfl rfl jm_m2 rfl rfl (ta_grow0 (f := 0) (t := 0) (by decide) (by decide)) ?_
    refine jt_go jm_m21 16 1 (f' := (28, [(0, .inr (.inr (2, j, 0))), (1, .inl (nI c))], [.inl ((nI (g (39 + 5 * c))) + (nI 1)), .inl (nI 99), .inl (nI c), .inr (.inr (2, j, 4))], h)) (P := True) rfl trivial ?_
    refine jt_ti (show ((nI (g (39 + 5 * c))) + (nI 1)) = nI (g (39 + 5 * c) + 1) from nI_add _ _) ?_
    refine jt_go jm_m21 17 1 (f' := (31, [(0, .inr (.inr (2, j, 0))), (1, .inl (nI c))], [.inl (if (nI (g (39 + 5 * c) + 1)) < (nI 99) then (nI (g (39 + 5 * c) + 1)) else (nI 99)), .inl (nI c), .inr (.inr (2, j, 4))], h)) (P := True) rfl trivial ?_
    refine jt_ti (show (if (nI (g (39 + 5 * c) + 1)) < (nI 99) then (nI (g (39 + 5 * c) + 1)) else (nI 99)) = nI (min 99 (g (39 + 5 * c) + 1)) from jx_min (by omega) (by omega)) ?_
    refine jt_goM jm_m21 18 1 (pc' := 32) (L' := [(0, .inr (.inr (2, j, 0))), (1, .inl (nI c))]) (st' := []) (m' := jm_set h (2, j, 4) (upd (h (2, j, 4)) (nI c).toNatClampNeg (nI (min 99 (g (39 + 5 * c) + 1))))) (P := vp_in (nI c) 6 ∧ True) rfl ⟨(vp_in_nI (by omega) (by decide)), trivial⟩ (fun h3 eh3 => ?_)
    have Fh3 : jf_fc j h h3 := by rw [eh3]; exact jf_fc_setA jf_fc_rf ⟨Or.inl rfl, rfl⟩ (by simp)
    obtain ⟨gh3, egh3⟩ : ∃ y, y = sp_up g (39 + 5 * c) (min 99 (g (39 + 5 * c) + 1)) := ⟨_, rfl⟩
    have Rh3 : jf_rel h3 j gh3 := by rw [eh3, egh3]; exact jf_set_hair R (c := c) (w := min 99 (g (39 + 5 * c) + 1)) (nI_clamp (by omega)) (by omega) rfl
    refine jt_vret jm_m21 19 rfl ?_
    refine ⟨rfl, ?_, Fh3⟩
    have e : gh3 = sp_hair g c := egh3.trans (by unfold sp_hair; rw [← ek1]; first | done | rfl)
    rw [← e]
    exact Rh3
  · refine jt_callp (w := .inl (nI 2)) jm_m21 15 (mi' := 71) (as := [.inr (.inr (1, 3, 0))]) (rest := [.inl (nI (g (39 + 5 * c))), .inl (nI 99), .inl (nI c), .inr (.inr (2, j, 4))]) (nxt := 27) rfl rfl jm_m71 rfl rfl (ta_grow3 (f := 0) (t := 0) (by decide) (by decide)) ?_
    refine jt_go jm_m21 16 1 (f' := (28, [(0, .inr (.inr (2, j, 0))), (1, .inl (nI c))], [.inl ((nI (g (39 + 5 * c))) + (nI 2)), .inl (nI 99), .inl (nI c), .inr (.inr (2, j, 4))], h)) (P := True) rfl trivial ?_
    refine jt_ti (show ((nI (g (39 + 5 * c))) + (nI 2)) = nI (g (39 + 5 * c) + 2) from nI_add _ _) ?_
    refine jt_go jm_m21 17 1 (f' := (31, [(0, .inr (.inr (2, j, 0))), (1, .inl (nI c))], [.inl (if (nI (g (39 + 5 * c) + 2)) < (nI 99) then (nI (g (39 + 5 * c) + 2)) else (nI 99)), .inl (nI c), .inr (.inr (2, j, 4))], h)) (P := True) rfl trivial ?_
    refine jt_ti (show (if (nI (g (39 + 5 * c) + 2)) < (nI 99) then (nI (g (39 + 5 * c) + 2)) else (nI 99)) = nI (min 99 (g (39 + 5 * c) + 2)) from jx_min (by omega) (by omega)) ?_
    refine jt_goM jm_m21 18 1 (pc' := 32) (L' := [(0, .inr (.inr (2, j, 0))), (1, .inl (nI c))]) (st' := []) (m' := jm_set h (2, j, 4) (upd (h (2, j, 4)) (nI c).toNatClampNeg (nI (min 99 (g (39 + 5 * c) + 2))))) (P := vp_in (nI c) 6 ∧ True) rfl ⟨(vp_in_nI (by omega) (by decide)), trivial⟩ (fun h4 eh4 => ?_)
    have Fh4 : jf_fc j h h4 := by rw [eh4]; exact jf_fc_setA jf_fc_rf ⟨Or.inl rfl, rfl⟩ (by simp)
    obtain ⟨gh4, egh4⟩ : ∃ y, y = sp_up g (39 + 5 * c) (min 99 (g (39 + 5 * c) + 2)) := ⟨_, rfl⟩
    have Rh4 : jf_rel h4 j gh4 := by rw [eh4, egh4]; exact jf_set_hair R (c := c) (w := min 99 (g (39 + 5 * c) + 2)) (nI_clamp (by omega)) (by omega) rfl
    refine jt_vret jm_m21 19 rfl ?_
    refine ⟨rfl, ?_, Fh4⟩
    have e : gh4 = sp_hair g c := egh4.trans (by unfold sp_hair; rw [← ek1]; first | done | rfl)
    rw [← e]
    exact Rh4
  · refine jt_callp (w := .inl (nI 1)) jm_m21 15 (mi' := 2) (as := [.inr (.inr (1, 4, 0))]) (rest := [.inl (nI (g (39 + 5 * c))), .inl (nI 99), .inl (nI c), .inr (.inr (2, j, 4))]) (nxt := 27) rfl rfl jm_m2 rfl rfl (ta_grow0 (f := 0) (t := 0) (by decide) (by decide)) ?_
    refine jt_go jm_m21 16 1 (f' := (28, [(0, .inr (.inr (2, j, 0))), (1, .inl (nI c))], [.inl ((nI (g (39 + 5 * c))) + (nI 1)), .inl (nI 99), .inl (nI c), .inr (.inr (2, j, 4))], h)) (P := True) rfl trivial ?_
    refine jt_ti (show ((nI (g (39 + 5 * c))) + (nI 1)) = nI (g (39 + 5 * c) + 1) from nI_add _ _) ?_
    refine jt_go jm_m21 17 1 (f' := (31, [(0, .inr (.inr (2, j, 0))), (1, .inl (nI c))], [.inl (if (nI (g (39 + 5 * c) + 1)) < (nI 99) then (nI (g (39 + 5 * c) + 1)) else (nI 99)), .inl (nI c), .inr (.inr (2, j, 4))], h)) (P := True) rfl trivial ?_
    refine jt_ti (show (if (nI (g (39 + 5 * c) + 1)) < (nI 99) then (nI (g (39 + 5 * c) + 1)) else (nI 99)) = nI (min 99 (g (39 + 5 * c) + 1)) from jx_min (by omega) (by omega)) ?_
    refine jt_goM jm_m21 18 1 (pc' := 32) (L' := [(0, .inr (.inr (2, j, 0))), (1, .inl (nI c))]) (st' := []) (m' := jm_set h (2, j, 4) (upd (h (2, j, 4)) (nI c).toNatClampNeg (nI (min 99 (g (39 + 5 * c) + 1))))) (P := vp_in (nI c) 6 ∧ True) rfl ⟨(vp_in_nI (by omega) (by decide)), trivial⟩ (fun h5 eh5 => ?_)
    have Fh5 : jf_fc j h h5 := by rw [eh5]; exact jf_fc_setA jf_fc_rf ⟨Or.inl rfl, rfl⟩ (by simp)
    obtain ⟨gh5, egh5⟩ : ∃ y, y = sp_up g (39 + 5 * c) (min 99 (g (39 + 5 * c) + 1)) := ⟨_, rfl⟩
    have Rh5 : jf_rel h5 j gh5 := by rw [eh5, egh5]; exact jf_set_hair R (c := c) (w := min 99 (g (39 + 5 * c) + 1)) (nI_clamp (by omega)) (by omega) rfl
    refine jt_vret jm_m21 19 rfl ?_
    refine ⟨rfl, ?_, Fh5⟩
    have e : gh5 = sp_hair g c := egh5.trans (by unfold sp_hair; rw [← ek1]; first | done | rfl)
    rw [← e]
    exact Rh5
  · refine jt_callp (w := .inl (nI 0)) jm_m21 15 (mi' := 50) (as := [.inr (.inr (1, 5, 0))]) (rest := [.inl (nI (g (39 + 5 * c))), .inl (nI 99), .inl (nI c), .inr (.inr (2, j, 4))]) (nxt := 27) rfl rfl jm_m50 rfl rfl (ta_grow5 (f := 0) (t := 0) (by decide) (by decide)) ?_
    refine jt_go jm_m21 16 1 (f' := (28, [(0, .inr (.inr (2, j, 0))), (1, .inl (nI c))], [.inl ((nI (g (39 + 5 * c))) + (nI 0)), .inl (nI 99), .inl (nI c), .inr (.inr (2, j, 4))], h)) (P := True) rfl trivial ?_
    refine jt_ti (show ((nI (g (39 + 5 * c))) + (nI 0)) = nI (g (39 + 5 * c)) from Int32.add_zero _) ?_
    refine jt_go jm_m21 17 1 (f' := (31, [(0, .inr (.inr (2, j, 0))), (1, .inl (nI c))], [.inl (if (nI (g (39 + 5 * c))) < (nI 99) then (nI (g (39 + 5 * c))) else (nI 99)), .inl (nI c), .inr (.inr (2, j, 4))], h)) (P := True) rfl trivial ?_
    refine jt_ti (show (if (nI (g (39 + 5 * c))) < (nI 99) then (nI (g (39 + 5 * c))) else (nI 99)) = nI (min 99 (g (39 + 5 * c))) from jx_min (by omega) (by omega)) ?_
    refine jt_goM jm_m21 18 1 (pc' := 32) (L' := [(0, .inr (.inr (2, j, 0))), (1, .inl (nI c))]) (st' := []) (m' := jm_set h (2, j, 4) (upd (h (2, j, 4)) (nI c).toNatClampNeg (nI (min 99 (g (39 + 5 * c)))))) (P := vp_in (nI c) 6 ∧ True) rfl ⟨(vp_in_nI (by omega) (by decide)), trivial⟩ (fun h6 eh6 => ?_)
    have Fh6 : jf_fc j h h6 := by rw [eh6]; exact jf_fc_setA jf_fc_rf ⟨Or.inl rfl, rfl⟩ (by simp)
    obtain ⟨gh6, egh6⟩ : ∃ y, y = sp_up g (39 + 5 * c) (min 99 (g (39 + 5 * c))) := ⟨_, rfl⟩
    have Rh6 : jf_rel h6 j gh6 := by rw [eh6, egh6]; exact jf_set_hair R (c := c) (w := min 99 (g (39 + 5 * c))) (nI_clamp (by omega)) (by omega) rfl
    refine jt_vret jm_m21 19 rfl ?_
    refine ⟨rfl, ?_, Fh6⟩
    have e : gh6 = sp_hair g c := egh6.trans (by unfold sp_hair; rw [← ek1]; first | done | rfl)
    rw [← e]
    exact Rh6
  · refine jt_callp (w := .inl (nI 1)) jm_m21 15 (mi' := 2) (as := [.inr (.inr (1, 6, 0))]) (rest := [.inl (nI (g (39 + 5 * c))), .inl (nI 99), .inl (nI c), .inr (.inr (2, j, 4))]) (nxt := 27) rfl rfl jm_m2 rfl rfl (ta_grow0 (f := 0) (t := 0) (by decide) (by decide)) ?_
    refine jt_go jm_m21 16 1 (f' := (28, [(0, .inr (.inr (2, j, 0))), (1, .inl (nI c))], [.inl ((nI (g (39 + 5 * c))) + (nI 1)), .inl (nI 99), .inl (nI c), .inr (.inr (2, j, 4))], h)) (P := True) rfl trivial ?_
    refine jt_ti (show ((nI (g (39 + 5 * c))) + (nI 1)) = nI (g (39 + 5 * c) + 1) from nI_add _ _) ?_
    refine jt_go jm_m21 17 1 (f' := (31, [(0, .inr (.inr (2, j, 0))), (1, .inl (nI c))], [.inl (if (nI (g (39 + 5 * c) + 1)) < (nI 99) then (nI (g (39 + 5 * c) + 1)) else (nI 99)), .inl (nI c), .inr (.inr (2, j, 4))], h)) (P := True) rfl trivial ?_
    refine jt_ti (show (if (nI (g (39 + 5 * c) + 1)) < (nI 99) then (nI (g (39 + 5 * c) + 1)) else (nI 99)) = nI (min 99 (g (39 + 5 * c) + 1)) from jx_min (by omega) (by omega)) ?_
    refine jt_goM jm_m21 18 1 (pc' := 32) (L' := [(0, .inr (.inr (2, j, 0))), (1, .inl (nI c))]) (st' := []) (m' := jm_set h (2, j, 4) (upd (h (2, j, 4)) (nI c).toNatClampNeg (nI (min 99 (g (39 + 5 * c) + 1))))) (P := vp_in (nI c) 6 ∧ True) rfl ⟨(vp_in_nI (by omega) (by decide)), trivial⟩ (fun h7 eh7 => ?_)
    have Fh7 : jf_fc j h h7 := by rw [eh7]; exact jf_fc_setA jf_fc_rf ⟨Or.inl rfl, rfl⟩ (by simp)
    obtain ⟨gh7, egh7⟩ : ∃ y, y = sp_up g (39 + 5 * c) (min 99 (g (39 + 5 * c) + 1)) := ⟨_, rfl⟩
    have Rh7 : jf_rel h7 j gh7 := by rw [eh7, egh7]; exact jf_set_hair R (c := c) (w := min 99 (g (39 + 5 * c) + 1)) (nI_clamp (by omega)) (by omega) rfl
    refine jt_vret jm_m21 19 rfl ?_
    refine ⟨rfl, ?_, Fh7⟩
    have e : gh7 = sp_hair g c := egh7.trans (by unfold sp_hair; rw [← ek1]; first | done | rfl)
    rw [← e]
    exact Rh7
  · refine jt_callp (w := .inl (nI 1)) jm_m21 15 (mi' := 2) (as := [.inr (.inr (1, 7, 0))]) (rest := [.inl (nI (g (39 + 5 * c))), .inl (nI 99), .inl (nI c), .inr (.inr (2, j, 4))]) (nxt := 27) rfl rfl jm_m2 rfl rfl (ta_grow0 (f := 0) (t := 0) (by decide) (by decide)) ?_
    refine jt_go jm_m21 16 1 (f' := (28, [(0, .inr (.inr (2, j, 0))), (1, .inl (nI c))], [.inl ((nI (g (39 + 5 * c))) + (nI 1)), .inl (nI 99), .inl (nI c), .inr (.inr (2, j, 4))], h)) (P := True) rfl trivial ?_
    refine jt_ti (show ((nI (g (39 + 5 * c))) + (nI 1)) = nI (g (39 + 5 * c) + 1) from nI_add _ _) ?_
    refine jt_go jm_m21 17 1 (f' := (31, [(0, .inr (.inr (2, j, 0))), (1, .inl (nI c))], [.inl (if (nI (g (39 + 5 * c) + 1)) < (nI 99) then (nI (g (39 + 5 * c) + 1)) else (nI 99)), .inl (nI c), .inr (.inr (2, j, 4))], h)) (P := True) rfl trivial ?_
    refine jt_ti (show (if (nI (g (39 + 5 * c) + 1)) < (nI 99) then (nI (g (39 + 5 * c) + 1)) else (nI 99)) = nI (min 99 (g (39 + 5 * c) + 1)) from jx_min (by omega) (by omega)) ?_
    refine jt_goM jm_m21 18 1 (pc' := 32) (L' := [(0, .inr (.inr (2, j, 0))), (1, .inl (nI c))]) (st' := []) (m' := jm_set h (2, j, 4) (upd (h (2, j, 4)) (nI c).toNatClampNeg (nI (min 99 (g (39 + 5 * c) + 1))))) (P := vp_in (nI c) 6 ∧ True) rfl ⟨(vp_in_nI (by omega) (by decide)), trivial⟩ (fun h8 eh8 => ?_)
    have Fh8 : jf_fc j h h8 := by rw [eh8]; exact jf_fc_setA jf_fc_rf ⟨Or.inl rfl, rfl⟩ (by simp)
    obtain ⟨gh8, egh8⟩ : ∃ y, y = sp_up g (39 + 5 * c) (min 99 (g (39 + 5 * c) + 1)) := ⟨_, rfl⟩
    have Rh8 : jf_rel h8 j gh8 := by rw [eh8, egh8]; exact jf_set_hair R (c := c) (w := min 99 (g (39 + 5 * c) + 1)) (nI_clamp (by omega)) (by omega) rfl
    refine jt_vret jm_m21 19 rfl ?_
    refine ⟨rfl, ?_, Fh8⟩
    have e : gh8 = sp_hair g c := egh8.trans (by unfold sp_hair; rw [← ek1]; first | done | rfl)
    rw [← e]
    exact Rh8
set_option maxHeartbeats 4000000 in
set_option maxRecDepth 20000 in
theorem ta_go {h : jm_M} {j : Nat} {g : Nat → Nat} (R : jf_rel h j g) (W : jw g) {c : Nat} (hc : c < g 0) : jt_T 20 (0, [(0, .inr (.inr (2, j, 0))), (1, .inl (nI c))], [], h) (fun u h' => u = none ∧ jf_rel h' j (sp_move g c) ∧ jf_fc j h h') := by
  have bn := jw_n W
  have bm := jw_m W
  have bt := jw_t W
  have bs := sp_toc_lt W hc
  have bg : sp_goal g c < 16 := sp_goalK_lt W hc _
  have bp : sp_pace (g (36 + 5 * c)) (g (37 + 5 * c)) (g 2) ≤ 8 := sp_pace_le (jw_fig W (by omega))
  have ba := jw_at W (c := c) (by omega)
  refine jt_go jm_m20 0 4 (f' := (6, [(0, .inr (.inr (2, j, 0))), (1, .inl (nI c))], [.inl (h (2, j, 3) (nI c).toNatClampNeg)], h)) (P := vp_in (nI c) 6 ∧ True) rfl ⟨(vp_in_nI (by omega) (by decide)), trivial⟩ ?_
  refine jt_ti (show (h (2, j, 3) (nI c).toNatClampNeg) = nI (g (38 + 5 * c)) from jf_at R (c := c) (nI_clamp (by omega)) (by omega)) ?_
  have bq1 := jw_at W (c := c) (by omega)
  refine jt_go jm_m20 4 5 (f' := (13, [(2, .inl (nI (g (38 + 5 * c)))), (0, .inr (.inr (2, j, 0))), (1, .inl (nI c))], [.inl (h (2, j, 0) 11), .inl (nI c), .inr (.inr (2, j, 0))], h)) (P := True) rfl trivial ?_
  refine jt_ti (show (h (2, j, 0) 11) = nI (g 2) from jf_hour R) ?_
  have bq2 := jw_t W
  refine jt_callp (w := .inl (nI (sp_pace (g (36 + 5 * c)) (g (37 + 5 * c)) (g 2)))) jm_m20 9 (mi' := 25) (as := [.inr (.inr (2, j, 0)), .inl (nI c), .inl (nI (g 2))]) (rest := []) (nxt := 16) rfl rfl jm_m25 rfl rfl (ta_paceOf R W (by omega) bt) ?_
  refine jt_go jm_m20 10 3 (f' := (19, [(3, .inl (nI (sp_pace (g (36 + 5 * c)) (g (37 + 5 * c)) (g 2)))), (2, .inl (nI (g (38 + 5 * c)))), (0, .inr (.inr (2, j, 0))), (1, .inl (nI c))], [.inl (nI c), .inr (.inr (2, j, 0))], h)) (P := True) rfl trivial ?_
  refine jt_callp (w := .inl (nI (sp_goal g c))) jm_m20 13 (mi' := 24) (as := [.inr (.inr (2, j, 0)), .inl (nI c)]) (rest := []) (nxt := 22) rfl rfl jm_m24 rfl rfl (ta_goalOf R W hc) ?_
  refine jt_go jm_m20 14 11 (f' := (39, [(4, .inl ((nI (sp_goal g c)) - (nI (g (38 + 5 * c))))), (3, .inl (nI (sp_pace (g (36 + 5 * c)) (g (37 + 5 * c)) (g 2)))), (2, .inl (nI (g (38 + 5 * c)))), (0, .inr (.inr (2, j, 0))), (1, .inl (nI c))], [.inl ((nI (g (38 + 5 * c))) + (if (-(nI (sp_pace (g (36 + 5 * c)) (g (37 + 5 * c)) (g 2)))) < (if ((nI (sp_goal g c)) - (nI (g (38 + 5 * c)))) < (nI (sp_pace (g (36 + 5 * c)) (g (37 + 5 * c)) (g 2))) then ((nI (sp_goal g c)) - (nI (g (38 + 5 * c)))) else (nI (sp_pace (g (36 + 5 * c)) (g (37 + 5 * c)) (g 2)))) then (if ((nI (sp_goal g c)) - (nI (g (38 + 5 * c)))) < (nI (sp_pace (g (36 + 5 * c)) (g (37 + 5 * c)) (g 2))) then ((nI (sp_goal g c)) - (nI (g (38 + 5 * c)))) else (nI (sp_pace (g (36 + 5 * c)) (g (37 + 5 * c)) (g 2)))) else (-(nI (sp_pace (g (36 + 5 * c)) (g (37 + 5 * c)) (g 2))))))], h)) (P := True) rfl trivial ?_
  refine jt_ti (show ((nI (g (38 + 5 * c))) + (if (-(nI (sp_pace (g (36 + 5 * c)) (g (37 + 5 * c)) (g 2)))) < (if ((nI (sp_goal g c)) - (nI (g (38 + 5 * c)))) < (nI (sp_pace (g (36 + 5 * c)) (g (37 + 5 * c)) (g 2))) then ((nI (sp_goal g c)) - (nI (g (38 + 5 * c)))) else (nI (sp_pace (g (36 + 5 * c)) (g (37 + 5 * c)) (g 2)))) then (if ((nI (sp_goal g c)) - (nI (g (38 + 5 * c)))) < (nI (sp_pace (g (36 + 5 * c)) (g (37 + 5 * c)) (g 2))) then ((nI (sp_goal g c)) - (nI (g (38 + 5 * c)))) else (nI (sp_pace (g (36 + 5 * c)) (g (37 + 5 * c)) (g 2)))) else (-(nI (sp_pace (g (36 + 5 * c)) (g (37 + 5 * c)) (g 2)))))) = nI (sp_toc g c) from jx_to16 _ (by omega) _ (by omega) _ (by omega)) ?_
  refine jt_goM jm_m20 25 6 (pc' := 49) (L' := [(5, .inl (nI (sp_toc g c))), (4, .inl ((nI (sp_goal g c)) - (nI (g (38 + 5 * c))))), (3, .inl (nI (sp_pace (g (36 + 5 * c)) (g (37 + 5 * c)) (g 2)))), (2, .inl (nI (g (38 + 5 * c)))), (0, .inr (.inr (2, j, 0))), (1, .inl (nI c))]) (st' := []) (m' := jm_set h (2, j, 3) (upd (h (2, j, 3)) (nI c).toNatClampNeg (nI (sp_toc g c)))) (P := vp_in (nI c) 6 ∧ True) rfl ⟨(vp_in_nI (by omega) (by decide)), trivial⟩ (fun h1 eh1 => ?_)
  have Fh1 : jf_fc j h h1 := by rw [eh1]; exact jf_fc_setA jf_fc_rf ⟨Or.inl rfl, rfl⟩ (by simp)
  obtain ⟨gh1, egh1⟩ : ∃ y, y = sp_up g (38 + 5 * c) (sp_toc g c) := ⟨_, rfl⟩
  have Rh1 : jf_rel h1 j gh1 := by rw [eh1, egh1]; exact jf_set_at R (c := c) (w := sp_toc g c) (nI_clamp (by omega)) (by omega) rfl
  refine jt_go jm_m20 31 2 (f' := (52, [(5, .inl (nI (sp_toc g c))), (4, .inl ((nI (sp_goal g c)) - (nI (g (38 + 5 * c))))), (3, .inl (nI (sp_pace (g (36 + 5 * c)) (g (37 + 5 * c)) (g 2)))), (2, .inl (nI (g (38 + 5 * c)))), (0, .inr (.inr (2, j, 0))), (1, .inl (nI c))], [.inl (nI (g (38 + 5 * c))), .inl (nI (sp_toc g c))], h1)) (P := True) rfl trivial ?_
  refine jt_niceq jm_m20 33 (a := sp_toc g c) (b := g (38 + 5 * c)) (by omega) (by omega) (tgt := 76) (nxt := 55) rfl rfl rfl (fun c52 => ?_) (fun c52 => ?_)
  · refine jt_vret jm_m20 47 rfl ?_
    refine ⟨rfl, ?_, Fh1⟩
    have e : gh1 = sp_move g c := by rw [egh1]; unfold sp_move; rw [if_pos c52]; exact sp_up_self c52
    rw [← e]
    exact Rh1
  · refine jt_go jm_m20 34 4 (f' := (62, [(5, .inl (nI (sp_toc g c))), (4, .inl ((nI (sp_goal g c)) - (nI (g (38 + 5 * c))))), (3, .inl (nI (sp_pace (g (36 + 5 * c)) (g (37 + 5 * c)) (g 2)))), (2, .inl (nI (g (38 + 5 * c)))), (0, .inr (.inr (2, j, 0))), (1, .inl (nI c))], [.inl (h1 (6, j, 0) (nI (sp_toc g c)).toNatClampNeg)], h1)) (P := vp_in (nI (sp_toc g c)) 16 ∧ True) rfl ⟨(vp_in_nI (by omega) (by decide)), trivial⟩ ?_
    refine jt_ti (show (h1 (6, j, 0) (nI (sp_toc g c)).toNatClampNeg) = nI (gh1 (4 + (sp_toc g c))) from jf_fish Rh1 (c := sp_toc g c) (nI_clamp (by omega)) (by omega)) ?_
    have bf : gh1 (4 + sp_toc g c) ≤ 9 := by rw [egh1, sp_up_ne (by omega)]; exact jw_fish W bs
    refine jt_nifle jm_m20 38 (by omega) (tgt := 76) (nxt := 65) rfl rfl rfl (fun c62 => ?_) (fun c62 => ?_)
    · refine jt_vret jm_m20 47 rfl ?_
      refine ⟨rfl, ?_, Fh1⟩
      have e : gh1 = sp_move g c := by rw [egh1]; unfold sp_move; rw [if_neg c52]; unfold sp_eat; rw [← egh1, if_neg (by omega)]
      rw [← e]
      exact Rh1
    · refine jt_go jm_m20 39 5 (f' := (73, [(5, .inl (nI (sp_toc g c))), (4, .inl ((nI (sp_goal g c)) - (nI (g (38 + 5 * c))))), (3, .inl (nI (sp_pace (g (36 + 5 * c)) (g (37 + 5 * c)) (g 2)))), (2, .inl (nI (g (38 + 5 * c)))), (0, .inr (.inr (2, j, 0))), (1, .inl (nI c))], [.inl (h1 (6, j, 0) (nI (sp_toc g c)).toNatClampNeg), .inl (nI (sp_toc g c)), .inr (.inr (6, j, 0))], h1)) (P := vp_in (nI (sp_toc g c)) 16 ∧ True) rfl ⟨(vp_in_nI (by omega) (by decide)), trivial⟩ ?_
      refine jt_ti (show (h1 (6, j, 0) (nI (sp_toc g c)).toNatClampNeg) = nI (gh1 (4 + (sp_toc g c))) from jf_fish Rh1 (c := sp_toc g c) (nI_clamp (by omega)) (by omega)) ?_
      refine jt_go jm_m20 44 2 (f' := (75, [(5, .inl (nI (sp_toc g c))), (4, .inl ((nI (sp_goal g c)) - (nI (g (38 + 5 * c))))), (3, .inl (nI (sp_pace (g (36 + 5 * c)) (g (37 + 5 * c)) (g 2)))), (2, .inl (nI (g (38 + 5 * c)))), (0, .inr (.inr (2, j, 0))), (1, .inl (nI c))], [.inl ((nI (gh1 (4 + (sp_toc g c)))) - (nI 1)), .inl (nI (sp_toc g c)), .inr (.inr (6, j, 0))], h1)) (P := True) rfl trivial ?_
      refine jt_ti (show ((nI (gh1 (4 + (sp_toc g c)))) - (nI 1)) = nI (gh1 (4 + sp_toc g c) - 1) from nI_subN (by omega)) ?_
      refine jt_goM jm_m20 46 1 (pc' := 76) (L' := [(5, .inl (nI (sp_toc g c))), (4, .inl ((nI (sp_goal g c)) - (nI (g (38 + 5 * c))))), (3, .inl (nI (sp_pace (g (36 + 5 * c)) (g (37 + 5 * c)) (g 2)))), (2, .inl (nI (g (38 + 5 * c)))), (0, .inr (.inr (2, j, 0))), (1, .inl (nI c))]) (st' := []) (m' := jm_set h1 (6, j, 0) (upd (h1 (6, j, 0)) (nI (sp_toc g c)).toNatClampNeg (nI (gh1 (4 + sp_toc g c) - 1)))) (P := vp_in (nI (sp_toc g c)) 16 ∧ True) rfl ⟨(vp_in_nI (by omega) (by decide)), trivial⟩ (fun h2 eh2 => ?_)
      have Fh2 : jf_fc j h h2 := by rw [eh2]; exact jf_fc_setA Fh1 ⟨Or.inr rfl, rfl⟩ (by simp)
      obtain ⟨gh2, egh2⟩ : ∃ y, y = sp_up gh1 (4 + (sp_toc g c)) (gh1 (4 + sp_toc g c) - 1) := ⟨_, rfl⟩
      have Rh2 : jf_rel h2 j gh2 := by rw [eh2, egh2]; exact jf_set_fish Rh1 (c := sp_toc g c) (w := gh1 (4 + sp_toc g c) - 1) (nI_clamp (by omega)) (by omega) rfl
      refine jt_vret jm_m20 47 rfl ?_
      refine ⟨rfl, ?_, Fh2⟩
      have e : gh2 = sp_move g c := by rw [egh2]; unfold sp_move; rw [if_neg c52]; unfold sp_eat; rw [← egh1, if_pos c62]
      rw [← e]
      exact Rh2
set_option maxHeartbeats 4000000 in
set_option maxRecDepth 20000 in
theorem ta_letPass {h : jm_M} {j : Nat} {g : Nat → Nat} (R : jf_rel h j g) (W : jw g) {c : Nat} (hc : c < g 0) {fm : Nat} (hf : fm ≤ 1) : jt_T 22 (0, [(0, .inr (.inr (2, j, 0))), (1, .inl (nI c)), (2, .inl (nI fm))], [], h) (fun u h' => u = none ∧ jf_rel h' j (sp_pass g c fm) ∧ jf_fc j h h') := by
  have bn := jw_n W
  have bm := jw_m W
  have bt := jw_t W
  have bq := jw_nm W hc
  have bb := jw_pb W
  refine jt_go jm_m22 0 4 (f' := (6, [(0, .inr (.inr (2, j, 0))), (1, .inl (nI c)), (2, .inl (nI fm))], [.inl (h (2, j, 5) (nI c).toNatClampNeg)], h)) (P := vp_in (nI c) 6 ∧ True) rfl ⟨(vp_in_nI (by omega) (by decide)), trivial⟩ ?_
  refine jt_ti (show (h (2, j, 5) (nI c).toNatClampNeg) = nI (g (40 + 5 * c)) from jf_name R (c := c) (nI_clamp (by omega)) (by omega)) ?_
  have bq1 := jw_name W (c := c) (by omega)
  refine jt_go jm_m22 4 3 (f' := (9, [(3, .inl (nI (g (40 + 5 * c)))), (0, .inr (.inr (2, j, 0))), (1, .inl (nI c)), (2, .inl (nI fm))], [.inl (nI c), .inr (.inr (2, j, 0))], h)) (P := True) rfl trivial ?_
  refine jt_callp (w := .inl (jm_b (sp_read g c))) jm_m22 7 (mi' := 26) (as := [.inr (.inr (2, j, 0)), .inl (nI c)]) (rest := []) (nxt := 12) rfl rfl jm_m26 rfl rfl (ta_read R W (by omega)) ?_
  refine jt_ifbeq jm_m22 8 (tgt := 62) (nxt := 15) rfl rfl rfl (fun c12 => ?_) (fun c12 => ?_)
  · refine jt_vret jm_m22 38 rfl ?_
    refine ⟨rfl, ?_, jf_fc_rf⟩
    unfold sp_pass
    rw [if_neg (fun z => c12 z.1)]
    exact R
  · refine jt_go jm_m22 9 2 (f' := (17, [(3, .inl (nI (g (40 + 5 * c)))), (0, .inr (.inr (2, j, 0))), (1, .inl (nI c)), (2, .inl (nI fm))], [.inl (nI (g (40 + 5 * c))), .inr (.inr (2, j, 0))], h)) (P := True) rfl trivial ?_
    refine jt_callp (w := .inl (jm_b (nI 0 ≤ nI (g (40 + 5 * c)) ∧ nI (g (40 + 5 * c)) < nI (g 1)))) jm_m22 11 (mi' := 8) (as := [.inr (.inr (2, j, 0)), .inl (nI (g (40 + 5 * c)))]) (rest := []) (nxt := 20) rfl rfl jm_m8 rfl rfl (ta_hasMan R W) ?_
    refine jt_ifbeq jm_m22 12 (tgt := 62) (nxt := 23) rfl rfl rfl (fun c20 => ?_) (fun c20 => ?_)
    · exact absurd ⟨nI_pos' (by omega), (nI_ltI (by omega) (by omega)).mpr (bq.resolve_left c12.1)⟩ c20
    · have c20 := (nI_ltI (by omega) (by omega)).mp c20.2
      have bv := jw_pas W (c := g (40 + 5 * c)) (by omega)
      refine jt_go jm_m22 13 4 (f' := (29, [(3, .inl (nI (g (40 + 5 * c)))), (0, .inr (.inr (2, j, 0))), (1, .inl (nI c)), (2, .inl (nI fm))], [.inl (h (2, j, 6) (nI (g (40 + 5 * c))).toNatClampNeg)], h)) (P := vp_in (nI (g (40 + 5 * c))) 6 ∧ True) rfl ⟨(vp_in_nI (by omega) (by decide)), trivial⟩ ?_
      refine jt_ti (show (h (2, j, 6) (nI (g (40 + 5 * c))).toNatClampNeg) = nI (g (66 + 2 * (g (40 + 5 * c)))) from jf_side R (c := g (40 + 5 * c)) (nI_clamp (by omega)) (by omega)) ?_
      have bq2 := jw_side W (c := g (40 + 5 * c)) (by omega)
      refine jt_go jm_m22 17 1 (f' := (30, [(3, .inl (nI (g (40 + 5 * c)))), (0, .inr (.inr (2, j, 0))), (1, .inl (nI c)), (2, .inl (nI fm))], [.inl (nI fm), .inl (nI (g (66 + 2 * (g (40 + 5 * c)))))], h)) (P := True) rfl trivial ?_
      refine jt_nicne jm_m22 18 (a := g (66 + 2 * (g (40 + 5 * c)))) (b := fm) (by omega) (by omega) (tgt := 62) (nxt := 33) rfl rfl rfl (fun c30 => ?_) (fun c30 => ?_)
      · refine jt_vret jm_m22 38 rfl ?_
        refine ⟨rfl, ?_, jf_fc_rf⟩
        unfold sp_pass
        rw [if_neg (fun z => c30 z.2.1)]
        exact R
      · refine jt_go jm_m22 19 2 (f' := (35, [(3, .inl (nI (g (40 + 5 * c)))), (0, .inr (.inr (2, j, 0))), (1, .inl (nI c)), (2, .inl (nI fm))], [.inl (nI (g (40 + 5 * c))), .inr (.inr (2, j, 0))], h)) (P := True) rfl trivial ?_
        refine jt_callp (w := .inl (jm_b (g (67 + 2 * g (40 + 5 * c)) = 1))) jm_m22 21 (mi' := 10) (as := [.inr (.inr (2, j, 0)), .inl (nI (g (40 + 5 * c)))]) (rest := []) (nxt := 38) rfl rfl jm_m10 rfl rfl (ta_hasPassed R W (by omega)) ?_
        refine jt_ifbne jm_m22 22 (tgt := 62) (nxt := 41) rfl rfl rfl (fun c38 => ?_) (fun c38 => ?_)
        · refine jt_vret jm_m22 38 rfl ?_
          refine ⟨rfl, ?_, jf_fc_rf⟩
          unfold sp_pass
          rw [if_neg (fun z => absurd (c38.symm.trans z.2.2) (by decide))]
          exact R
        · refine jt_go jm_m22 23 3 (f' := (46, [(3, .inl (nI (g (40 + 5 * c)))), (0, .inr (.inr (2, j, 0))), (1, .inl (nI c)), (2, .inl (nI fm))], [.inl (h (2, j, 0) 13), .inr (.inr (2, j, 0))], h)) (P := True) rfl trivial ?_
          refine jt_ti (show (h (2, j, 0) 13) = nI (sp_pb g) from jf_pass R) ?_
          have bq3 := jw_pb W
          refine jt_go jm_m22 26 4 (f' := (50, [(3, .inl (nI (g (40 + 5 * c)))), (0, .inr (.inr (2, j, 0))), (1, .inl (nI c)), (2, .inl (nI fm))], [.inl ((nI (sp_pb g)) ||| ((nI 1) <<< ((nI (g (40 + 5 * c))) &&& 31))), .inr (.inr (2, j, 0))], h)) (P := True) rfl trivial ?_
          refine jt_ti (show ((nI (sp_pb g)) ||| ((nI 1) <<< ((nI (g (40 + 5 * c))) &&& 31))) = nI (sp_pb g + 2 ^ g (40 + 5 * c)) from jx_orb _ bb _ (by omega) (by rw [jx_pbit W (by omega)]; omega)) ?_
          refine jt_goM jm_m22 30 1 (pc' := 53) (L' := [(3, .inl (nI (g (40 + 5 * c)))), (0, .inr (.inr (2, j, 0))), (1, .inl (nI c)), (2, .inl (nI fm))]) (st' := []) (m' := jm_set h (2, j, 0) (upd (h (2, j, 0)) 13 (nI (sp_pb g + 2 ^ g (40 + 5 * c))))) (P := True) rfl trivial (fun h1 eh1 => ?_)
          have Fh1 : jf_fc j h h1 := by rw [eh1]; exact jf_fc_setB jf_fc_rf (by decide)
          obtain ⟨gh1, egh1⟩ : ∃ y, y = sp_up g (67 + 2 * g (40 + 5 * c)) (1) := ⟨_, rfl⟩
          have Rh1 : jf_rel h1 j gh1 := by rw [eh1, egh1]; exact jf_set_pass R rfl (c := g (40 + 5 * c)) (w := 1) (by omega) (jx_pbup (by omega) (by omega))
          refine jt_go jm_m22 31 6 (f' := (61, [(3, .inl (nI (g (40 + 5 * c)))), (0, .inr (.inr (2, j, 0))), (1, .inl (nI c)), (2, .inl (nI fm))], [.inl ((nI 1) - (nI fm)), .inl (nI (g (40 + 5 * c))), .inr (.inr (2, j, 6))], h1)) (P := True) rfl trivial ?_
          refine jt_ti (show ((nI 1) - (nI fm)) = nI (1 - fm) from nI_subN (by omega)) ?_
          refine jt_goM jm_m22 37 1 (pc' := 62) (L' := [(3, .inl (nI (g (40 + 5 * c)))), (0, .inr (.inr (2, j, 0))), (1, .inl (nI c)), (2, .inl (nI fm))]) (st' := []) (m' := jm_set h1 (2, j, 6) (upd (h1 (2, j, 6)) (nI (g (40 + 5 * c))).toNatClampNeg (nI (1 - fm)))) (P := vp_in (nI (g (40 + 5 * c))) 6 ∧ True) rfl ⟨(vp_in_nI (by omega) (by decide)), trivial⟩ (fun h2 eh2 => ?_)
          have Fh2 : jf_fc j h h2 := by rw [eh2]; exact jf_fc_setA Fh1 ⟨Or.inl rfl, rfl⟩ (by simp)
          obtain ⟨gh2, egh2⟩ : ∃ y, y = sp_up gh1 (66 + 2 * (g (40 + 5 * c))) (1 - fm) := ⟨_, rfl⟩
          have Rh2 : jf_rel h2 j gh2 := by rw [eh2, egh2]; exact jf_set_side Rh1 (c := g (40 + 5 * c)) (w := 1 - fm) (nI_clamp (by omega)) (by omega) rfl
          refine jt_vret jm_m22 38 rfl ?_
          refine ⟨rfl, ?_, Fh2⟩
          unfold sp_pass
          rw [if_pos ⟨c12, c30, by omega⟩, ← egh1, ← egh2]
          exact Rh2
set_option maxHeartbeats 4000000 in
set_option maxRecDepth 20000 in
theorem ta_clock {h : jm_M} {j : Nat} {g : Nat → Nat} (R : jf_rel h j g) (W : jw g)  : jt_T 23 (0, [(0, .inr (.inr (2, j, 0)))], [], h) (fun u h' => u = none ∧ jf_rel h' j (sp_clock g) ∧ jf_fc j h h') := by
  have bn := jw_n W
  have bm := jw_m W
  have bt := jw_t W
  refine jt_go jm_m23 0 3 (f' := (5, [(0, .inr (.inr (2, j, 0)))], [.inl (h (2, j, 0) 11), .inr (.inr (2, j, 0))], h)) (P := True) rfl trivial ?_
  refine jt_ti (show (h (2, j, 0) 11) = nI (g 2) from jf_hour R) ?_
  have bq1 := jw_t W
  refine jt_go jm_m23 3 2 (f' := (7, [(0, .inr (.inr (2, j, 0)))], [.inl ((nI (g 2)) + (nI 1)), .inr (.inr (2, j, 0))], h)) (P := True) rfl trivial ?_
  refine jt_ti (show ((nI (g 2)) + (nI 1)) = nI (g 2 + 1) from nI_add _ _) ?_
  refine jt_goM jm_m23 5 1 (pc' := 10) (L' := [(0, .inr (.inr (2, j, 0)))]) (st' := []) (m' := jm_set h (2, j, 0) (upd (h (2, j, 0)) 11 (nI (g 2 + 1)))) (P := True) rfl trivial (fun h1 eh1 => ?_)
  have Fh1 : jf_fc j h h1 := by rw [eh1]; exact jf_fc_setB jf_fc_rf (by decide)
  obtain ⟨gh1, egh1⟩ : ∃ y, y = sp_up g (2) (g 2 + 1) := ⟨_, rfl⟩
  have Rh1 : jf_rel h1 j gh1 := by rw [eh1, egh1]; exact jf_set_hour R (w := g 2 + 1) rfl
  refine jt_go jm_m23 6 2 (f' := (14, [(0, .inr (.inr (2, j, 0)))], [.inl (h1 (2, j, 0) 11)], h1)) (P := True) rfl trivial ?_
  refine jt_ti (show (h1 (2, j, 0) 11) = nI (gh1 2) from jf_hour Rh1) ?_
  have ec : gh1 2 = g 2 + 1 := by rw [egh1]; exact sp_up_eq rfl
  refine jt_go jm_m23 8 1 (f' := (16, [(0, .inr (.inr (2, j, 0)))], [.inl (nI 24), .inl (nI (gh1 2))], h1)) (P := True) rfl trivial ?_
  refine jt_nicne jm_m23 9 (a := gh1 2) (b := 24) (by omega) (by omega) (tgt := 34) (nxt := 19) rfl rfl rfl (fun c16 => ?_) (fun c16 => ?_)
  · refine jt_vret jm_m23 19 rfl ?_
    refine ⟨rfl, ?_, Fh1⟩
    have e : gh1 = sp_clock g := by rw [egh1]; unfold sp_clock; rw [if_neg (by omega)]
    rw [← e]
    exact Rh1
  · refine jt_goM jm_m23 10 3 (pc' := 24) (L' := [(0, .inr (.inr (2, j, 0)))]) (st' := []) (m' := jm_set h1 (2, j, 0) (upd (h1 (2, j, 0)) 11 (nI 0))) (P := True) rfl trivial (fun h2 eh2 => ?_)
    have Fh2 : jf_fc j h h2 := by rw [eh2]; exact jf_fc_setB Fh1 (by decide)
    obtain ⟨gh2, egh2⟩ : ∃ y, y = sp_up gh1 (2) (0) := ⟨_, rfl⟩
    have Rh2 : jf_rel h2 j gh2 := by rw [eh2, egh2]; exact jf_set_hour Rh1 (w := 0) rfl
    refine jt_go jm_m23 13 3 (f' := (29, [(0, .inr (.inr (2, j, 0)))], [.inl (h2 (2, j, 0) 12), .inr (.inr (2, j, 0))], h2)) (P := True) rfl trivial ?_
    refine jt_ti (show (h2 (2, j, 0) 12) = nI (gh2 3) from jf_day Rh2) ?_
    refine jt_go jm_m23 16 2 (f' := (31, [(0, .inr (.inr (2, j, 0)))], [.inl ((nI (gh2 3)) + (nI 1)), .inr (.inr (2, j, 0))], h2)) (P := True) rfl trivial ?_
    refine jt_ti (show ((nI (gh2 3)) + (nI 1)) = nI (gh2 3 + 1) from nI_add _ _) ?_
    refine jt_goM jm_m23 18 1 (pc' := 34) (L' := [(0, .inr (.inr (2, j, 0)))]) (st' := []) (m' := jm_set h2 (2, j, 0) (upd (h2 (2, j, 0)) 12 (nI (gh2 3 + 1)))) (P := True) rfl trivial (fun h3 eh3 => ?_)
    have Fh3 : jf_fc j h h3 := by rw [eh3]; exact jf_fc_setB Fh2 (by decide)
    obtain ⟨gh3, egh3⟩ : ∃ y, y = sp_up gh2 (3) (gh2 3 + 1) := ⟨_, rfl⟩
    have Rh3 : jf_rel h3 j gh3 := by rw [eh3, egh3]; exact jf_set_day Rh2 (w := gh2 3 + 1) rfl
    refine jt_vret jm_m23 19 rfl ?_
    refine ⟨rfl, ?_, Fh3⟩
    have e : gh3 = sp_clock g := by rw [egh3, egh2, egh1]; unfold sp_clock; rw [if_pos (by omega), sp_up_ne (by decide), sp_up_ne (by decide)]; congr 1; funext i; by_cases e : i = 2 <;> simp [sp_up, e]
    rw [← e]
    exact Rh3
end
section
/-! CLASS: hours; what is counted. -/
theorem sp_one_k {g : Nat → Nat} {c : Nat} : sp_one g c true = sp_hair g c := by
  unfold sp_one
  rw [if_neg (by rw [sp_gone_atk]; exact fun z => z rfl)]
  rfl
theorem sp_cats_k {g : Nat → Nat} : ∀ c, (sp_cats g true c).2 = 0 := by
  intro c
  induction c with
  | zero => rfl
  | succ c ih =>
    show (if _ then _ else _) = 0
    rw [if_neg (by rw [sp_gone_atk]; exact fun z => z rfl)]
    exact ih
theorem jx_p32 {c : Nat} (h : c < 6) : 2 ^ c ≤ 32 := Nat.pow_le_pow_right (n := 2) (by decide) (show c ≤ 5 by omega)
def sp_sum (f : Nat → Nat) : Nat → Nat
  | 0 => 0
  | k + 1 => sp_sum f k + f k
theorem sp_sum_le {f : Nat → Nat} {M : Nat} : ∀ n, (∀ k, k < n → f k ≤ M) → sp_sum f n ≤ M * n := by
  intro n
  induction n with
  | zero => intro _; exact Nat.le_refl _
  | succ n ih =>
    intro h
    have h1 := ih (fun k hk => h k (by omega))
    have h2 := h n (by omega)
    show sp_sum f n + f n ≤ M * (n + 1)
    rw [Nat.mul_succ]
    omega
def sp_bits (P : Nat → Bool) : Nat → Nat
  | 0 => 0
  | k + 1 => if P k = true then sp_bits P k + 2 ^ k else sp_bits P k
theorem sp_bits_lt (P : Nat → Bool) : ∀ n, sp_bits P n < 2 ^ n := by
  intro n
  induction n with
  | zero => exact Nat.one_pos
  | succ n ih =>
    unfold sp_bits
    rw [Nat.pow_succ]
    split <;> omega
def sp_plc (g : Nat → Nat) : Nat → Int32
  | 0 => 0
  | k + 1 => sp_plc g k ||| (nI 1 <<< (nI (g (38 + 5 * k)) &&& 31))
set_option maxHeartbeats 4000000 in
set_option maxRecDepth 20000 in
theorem ta_hour_l {h : jm_M} {j : Nat} {g : Nat → Nat} (W : jw g) : ∀ c, c ≤ g 0 → ∀ hm : jm_M, (jf_rel hm j (sp_cats g false c).1) → (jf_fr j h hm) → (hm (2, j, 0) 14 = nI (sp_cats g false c).2) → jt_T 18 (7, [(0, .inr (.inr (2, j, 0))), (1, .inl (nI c))], [], hm) (fun u h' => u = none ∧ jf_rel h' j (sp_hour g false) ∧ jf_fr j h h' ∧ h' (2, j, 0) 14 = nI (sp_set g false)) := jx_up (P := fun c => ∀ hm : jm_M, (jf_rel hm j (sp_cats g false c).1) → (jf_fr j h hm) → (hm (2, j, 0) 14 = nI (sp_cats g false c).2) → jt_T 18 (7, [(0, .inr (.inr (2, j, 0))), (1, .inl (nI c))], [], hm) (fun u h' => u = none ∧ jf_rel h' j (sp_hour g false) ∧ jf_fr j h h' ∧ h' (2, j, 0) 14 = nI (sp_set g false))) (fun c hk nx hm Rm Fm Cm => by
  have wc := jw_cats W (kept := false) c hk
  obtain ⟨gc, egc⟩ : ∃ y, y = (sp_cats g false c).1 := ⟨_, rfl⟩
  obtain ⟨sc, esc⟩ : ∃ y, y = (sp_cats g false c).2 := ⟨_, rfl⟩
  rw [← egc, ← esc] at wc
  rw [← egc] at Rm
  have Wc := wc.1
  have e0 := wc.2.1 0 (by decide)
  have bn := jw_n W
  rw [← esc] at Cm
  refine jt_go jm_m18 5 3 (f' := (12, [(0, .inr (.inr (2, j, 0))), (1, .inl (nI c))], [.inl (hm (2, j, 0) 9), .inl (nI c)], hm)) (P := True) rfl trivial ?_
  refine jt_ti (show (hm (2, j, 0) 9) = nI (gc 0) from jf_cats Rm) ?_
  have bq1 := jw_n Wc
  refine jt_nicge jm_m18 8 (a := c) (b := gc 0) (by omega) (by omega) (tgt := 75) (nxt := 15) rfl rfl rfl (fun c12 => ?_) (fun c12 => ?_)
  · refine jt_go jm_m18 43 1 (f' := (76, [(0, .inr (.inr (2, j, 0))), (1, .inl (nI c))], [.inr (.inr (2, j, 0))], hm)) (P := True) rfl trivial ?_
    refine jt_call jm_m18 44 (mi' := 23) (as := [.inr (.inr (2, j, 0))]) (rest := []) (nxt := 79) rfl rfl jm_m23 rfl rfl (ta_clock Rm Wc) ?_
    rintro u h9 ⟨rfl, Rh9, Fh9⟩
    show jt_T 18 (79, [(0, .inr (.inr (2, j, 0))), (1, .inl (nI c))], [], h9) _
    refine jt_vret jm_m18 45 rfl ?_
    have e : c = g 0 := by omega
    subst e
    refine ⟨rfl, ?_, jf_fr_tr Fm Fh9.1, ?_⟩
    · unfold sp_hour; rw [← egc]; exact Rh9
    · unfold sp_set; rw [← esc]; exact Fh9.2.trans Cm
  · refine jt_go jm_m18 9 4 (f' := (21, [(0, .inr (.inr (2, j, 0))), (1, .inl (nI c))], [.inl (hm (2, j, 3) (nI c).toNatClampNeg)], hm)) (P := vp_in (nI c) 6 ∧ True) rfl ⟨(vp_in_nI (by omega) (by decide)), trivial⟩ ?_
    refine jt_ti (show (hm (2, j, 3) (nI c).toNatClampNeg) = nI (gc (38 + 5 * c)) from jf_at Rm (c := c) (nI_clamp (by omega)) (by omega)) ?_
    have bq2 := jw_at Wc (c := c) (by omega)
    refine jt_go jm_m18 13 3 (f' := (24, [(2, .inl (nI (gc (38 + 5 * c)))), (0, .inr (.inr (2, j, 0))), (1, .inl (nI c))], [.inl (nI c), .inr (.inr (2, j, 0))], hm)) (P := True) rfl trivial ?_
    refine jt_call jm_m18 16 (mi' := 20) (as := [.inr (.inr (2, j, 0)), .inl (nI c)]) (rest := []) (nxt := 27) rfl rfl jm_m20 rfl rfl (ta_go Rm Wc (by omega)) ?_
    rintro u h1 ⟨rfl, Rh1, Fh1⟩
    show jt_T 18 (27, [(2, .inl (nI (gc (38 + 5 * c)))), (0, .inr (.inr (2, j, 0))), (1, .inl (nI c))], [], h1) _
    have Wh1 := jw_move Wc (c := c) (by omega)
    have hc1 : c < sp_move gc c 0 := by rw [sp_move_ne (by omega) (by omega)]; omega
    refine jt_go jm_m18 17 2 (f' := (29, [(2, .inl (nI (gc (38 + 5 * c)))), (0, .inr (.inr (2, j, 0))), (1, .inl (nI c))], [.inl (nI c), .inr (.inr (2, j, 0))], h1)) (P := True) rfl trivial ?_
    refine jt_call jm_m18 19 (mi' := 21) (as := [.inr (.inr (2, j, 0)), .inl (nI c)]) (rest := []) (nxt := 32) rfl rfl jm_m21 rfl rfl (ta_grow Rh1 Wh1 (by omega)) ?_
    rintro u h2 ⟨rfl, Rh2, Gh2⟩
    show jt_T 18 (32, [(2, .inl (nI (gc (38 + 5 * c)))), (0, .inr (.inr (2, j, 0))), (1, .inl (nI c))], [], h2) _
    have Rh2 : jf_rel h2 j (sp_gone gc c false) := Rh2
    have Wh2 : jw (sp_gone gc c false) := jw_gone Wc (by omega)
    have Ch2 : h2 (2, j, 0) 14 = nI sc := (Gh2.2.trans Fh1.2).trans Cm
    have Fh2 := jf_fr_tr Fm (jf_fr_tr Fh1.1 Gh2.1)
    have hc2 : c < sp_gone gc c false 0 := by rw [sp_gone_ne Wc (by omega) (by omega) (by omega) (by omega)]; omega
    refine jt_go jm_m18 20 1 (f' := (33, [(2, .inl (nI (gc (38 + 5 * c)))), (0, .inr (.inr (2, j, 0))), (1, .inl (nI c))], [.inl (nI (gc (38 + 5 * c)))], h2)) (P := True) rfl trivial ?_
    refine jt_callp (w := .inl (nI (sp_sd (gc (38 + 5 * c))))) jm_m18 21 (mi' := 142) (as := [.inl (nI (gc (38 + 5 * c)))]) (rest := []) (nxt := 36) rfl rfl jm_m142 rfl rfl (ta_sideOf (by omega)) ?_
    have bq3 := sp_sd_le (gc (38 + 5 * c))
    refine jt_go jm_m18 22 4 (f' := (42, [(2, .inl (nI (gc (38 + 5 * c)))), (0, .inr (.inr (2, j, 0))), (1, .inl (nI c))], [.inl (h2 (2, j, 3) (nI c).toNatClampNeg), .inl (nI (sp_sd (gc (38 + 5 * c))))], h2)) (P := vp_in (nI c) 6 ∧ True) rfl ⟨(vp_in_nI (by omega) (by decide)), trivial⟩ ?_
    refine jt_ti (show (h2 (2, j, 3) (nI c).toNatClampNeg) = nI ((sp_gone gc c false) (38 + 5 * c)) from jf_at Rh2 (c := c) (nI_clamp (by omega)) (by omega)) ?_
    have bq4 := jw_at Wh2 (c := c) (by omega)
    refine jt_callp (w := .inl (nI (sp_sd ((sp_gone gc c false) (38 + 5 * c))))) jm_m18 26 (mi' := 142) (as := [.inl (nI ((sp_gone gc c false) (38 + 5 * c)))]) (rest := [.inl (nI (sp_sd (gc (38 + 5 * c))))]) (nxt := 45) rfl rfl jm_m142 rfl rfl (ta_sideOf (by omega)) ?_
    have bq5 := sp_sd_le ((sp_gone gc c false) (38 + 5 * c))
    refine jt_niceq jm_m18 27 (a := sp_sd (gc (38 + 5 * c))) (b := sp_sd ((sp_gone gc c false) (38 + 5 * c))) (by omega) (by omega) (tgt := 69) (nxt := 48) rfl rfl rfl (fun c45 => ?_) (fun c45 => ?_)
    · have c45 := (show sp_sd (gc (38 + 5 * c)) = sp_sd (sp_gone gc c false (38 + 5 * c)) from c45)
      refine jt_inc jm_m18 41 (c := c) (L' := [(1, .inl (nI (c + 1))), (2, .inl (nI (gc (38 + 5 * c)))), (0, .inr (.inr (2, j, 0)))]) rfl rfl rfl rfl ?_
      refine jt_go jm_m18 42 1 (f' := (7, [(1, .inl (nI (c + 1))), (2, .inl (nI (gc (38 + 5 * c)))), (0, .inr (.inr (2, j, 0)))], [], h2)) (P := True) rfl trivial ?_
      refine jt_pick (L' := [(0, .inr (.inr (2, j, 0))), (1, .inl (nI (c + 1)))]) [2, 0] rfl ?_
      have e1 : (sp_cats g false (c + 1)).1 = (sp_gone gc c false) := by show sp_one _ c false = _; rw [← egc]; unfold sp_one; rw [if_neg (not_not_intro c45)]; first | done | rfl
      have e2 : (sp_cats g false (c + 1)).2 = sc := by show (if _ then _ else _) = _; rw [← egc, ← esc, if_neg (not_not_intro c45)]
      exact nx (by omega) h2 (by rw [e1]; exact Rh2) Fh2 (by rw [e2]; exact Ch2)
    · have c45 : sp_sd (gc (38 + 5 * c)) ≠ sp_sd (sp_gone gc c false (38 + 5 * c)) := c45
      refine jt_go jm_m18 28 3 (f' := (53, [(2, .inl (nI (gc (38 + 5 * c)))), (0, .inr (.inr (2, j, 0))), (1, .inl (nI c))], [.inl (h2 (2, j, 0) 14), .inr (.inr (2, j, 0))], h2)) (P := True) rfl trivial ?_
      refine jt_ti (show (h2 (2, j, 0) 14) = nI sc from Ch2) ?_
      refine jt_go jm_m18 31 4 (f' := (57, [(2, .inl (nI (gc (38 + 5 * c)))), (0, .inr (.inr (2, j, 0))), (1, .inl (nI c))], [.inl ((nI sc) ||| ((nI 1) <<< ((nI c) &&& 31))), .inr (.inr (2, j, 0))], h2)) (P := True) rfl trivial ?_
      refine jt_ti (show ((nI sc) ||| ((nI 1) <<< ((nI c) &&& 31))) = nI (sc + 2 ^ c) from jx_orb _ (by have := jx_p32 (c := c) (by omega); omega) _ (by omega) (by rw [Nat.div_eq_of_lt wc.2.2])) ?_
      refine jt_goM jm_m18 35 1 (pc' := 60) (L' := [(2, .inl (nI (gc (38 + 5 * c)))), (0, .inr (.inr (2, j, 0))), (1, .inl (nI c))]) (st' := []) (m' := jm_set h2 (2, j, 0) (upd (h2 (2, j, 0)) 14 (nI (sc + 2 ^ c)))) (P := True) rfl trivial (fun h3 eh3 => ?_)
      have Rh3 : jf_rel h3 j (sp_gone gc c false) := by rw [eh3]; exact jf_set_cr Rh2
      have Fh3 : jf_fr j h h3 := by rw [eh3]; exact jf_fr_set Fh2 ⟨Or.inl rfl, rfl⟩
      have Ch3 : h3 (2, j, 0) 14 = nI (sc + 2 ^ c) := by rw [eh3, jm_set_eq, jx_eq]
      refine jt_go jm_m18 36 3 (f' := (63, [(2, .inl (nI (gc (38 + 5 * c)))), (0, .inr (.inr (2, j, 0))), (1, .inl (nI c))], [.inl (nI (gc (38 + 5 * c))), .inl (nI c), .inr (.inr (2, j, 0))], h3)) (P := True) rfl trivial ?_
      refine jt_callp (w := .inl (nI (sp_sd (gc (38 + 5 * c))))) jm_m18 39 (mi' := 142) (as := [.inl (nI (gc (38 + 5 * c)))]) (rest := [.inl (nI c), .inr (.inr (2, j, 0))]) (nxt := 66) rfl rfl jm_m142 rfl rfl (ta_sideOf (by omega)) ?_
      have bq6 := sp_sd_le (gc (38 + 5 * c))
      refine jt_call jm_m18 40 (mi' := 22) (as := [.inr (.inr (2, j, 0)), .inl (nI c), .inl (nI (sp_sd (gc (38 + 5 * c))))]) (rest := []) (nxt := 69) rfl rfl jm_m22 rfl rfl (ta_letPass Rh3 Wh2 hc2 (sp_sd_le _)) ?_
      rintro u h4 ⟨rfl, Rh4, Gh4⟩
      show jt_T 18 (69, [(2, .inl (nI (gc (38 + 5 * c)))), (0, .inr (.inr (2, j, 0))), (1, .inl (nI c))], [], h4) _
      have Ch4 : h4 (2, j, 0) 14 = nI (sc + 2 ^ c) := Gh4.2.trans Ch3
      have Fh4 := jf_fr_tr Fh3 Gh4.1
      refine jt_inc jm_m18 41 (c := c) (L' := [(1, .inl (nI (c + 1))), (2, .inl (nI (gc (38 + 5 * c)))), (0, .inr (.inr (2, j, 0)))]) rfl rfl rfl rfl ?_
      refine jt_go jm_m18 42 1 (f' := (7, [(1, .inl (nI (c + 1))), (2, .inl (nI (gc (38 + 5 * c)))), (0, .inr (.inr (2, j, 0)))], [], h4)) (P := True) rfl trivial ?_
      refine jt_pick (L' := [(0, .inr (.inr (2, j, 0))), (1, .inl (nI (c + 1)))]) [2, 0] rfl ?_
      have e1 : (sp_cats g false (c + 1)).1 = sp_pass (sp_gone gc c false) c (sp_sd (gc (38 + 5 * c))) := by show sp_one _ c false = _; rw [← egc]; unfold sp_one; rw [if_pos c45]; first | done | rfl
      have e2 : (sp_cats g false (c + 1)).2 = sc + 2 ^ c := by show (if _ then _ else _) = _; rw [← egc, ← esc, if_pos c45]
      exact nx (by omega) h4 (by rw [e1]; exact Rh4) Fh4 (by rw [e2]; exact Ch4))
set_option maxHeartbeats 4000000 in
set_option maxRecDepth 20000 in
theorem ta_hour {h : jm_M} {j : Nat} {g : Nat → Nat} (R : jf_rel h j g) (W : jw g)  : jt_T 18 (0, [(0, .inr (.inr (2, j, 0)))], [], h) (fun u h' => u = none ∧ jf_rel h' j (sp_hour g false) ∧ jf_fr j h h' ∧ h' (2, j, 0) 14 = nI (sp_set g false)) := by
  refine jt_goM jm_m18 0 3 (pc' := 5) (L' := [(0, .inr (.inr (2, j, 0)))]) (st' := []) (m' := jm_set h (2, j, 0) (upd (h (2, j, 0)) 14 (nI 0))) (P := True) rfl trivial (fun h1 eh1 => ?_)
  have Fh1 : jf_fr j h h1 := by rw [eh1]; exact jf_fr_set jf_fr_rf ⟨Or.inl rfl, rfl⟩
  have Rh1 : jf_rel h1 j g := by rw [eh1]; exact jf_set_cr R
  refine jt_go jm_m18 3 2 (f' := (7, [(1, .inl (nI 0)), (0, .inr (.inr (2, j, 0)))], [], h1)) (P := True) rfl trivial ?_
  refine jt_pick (L' := [(0, .inr (.inr (2, j, 0))), (1, .inl (nI 0))]) [1, 0] rfl ?_
  exact ta_hour_l W 0 (Nat.zero_le _) _ Rh1 Fh1 (by rw [eh1, jm_set_eq, jx_eq]; rfl)
set_option maxHeartbeats 4000000 in
set_option maxRecDepth 20000 in
theorem ta_hourk_l {h : jm_M} {j : Nat} {g : Nat → Nat} (W : jw g) : ∀ c, c ≤ g 0 → ∀ hm : jm_M, (jf_rel hm j (sp_cats g true c).1) → (jf_fr j h hm) → (hm (2, j, 0) 14 = nI 0) → jt_T 19 (7, [(0, .inr (.inr (2, j, 0))), (1, .inl (nI c))], [], hm) (fun u h' => u = none ∧ jf_rel h' j (sp_hour g true) ∧ jf_fr j h h' ∧ h' (2, j, 0) 14 = nI (sp_set g true)) := jx_up (P := fun c => ∀ hm : jm_M, (jf_rel hm j (sp_cats g true c).1) → (jf_fr j h hm) → (hm (2, j, 0) 14 = nI 0) → jt_T 19 (7, [(0, .inr (.inr (2, j, 0))), (1, .inl (nI c))], [], hm) (fun u h' => u = none ∧ jf_rel h' j (sp_hour g true) ∧ jf_fr j h h' ∧ h' (2, j, 0) 14 = nI (sp_set g true))) (fun c hk nx hm Rm Fm Cm => by
  have wc := jw_cats W (kept := true) c hk
  obtain ⟨gc, egc⟩ : ∃ y, y = (sp_cats g true c).1 := ⟨_, rfl⟩
  obtain ⟨sc, esc⟩ : ∃ y, y = (sp_cats g true c).2 := ⟨_, rfl⟩
  rw [← egc, ← esc] at wc
  rw [← egc] at Rm
  have Wc := wc.1
  have e0 := wc.2.1 0 (by decide)
  have bn := jw_n W
  refine jt_go jm_m19 5 3 (f' := (12, [(0, .inr (.inr (2, j, 0))), (1, .inl (nI c))], [.inl (hm (2, j, 0) 9), .inl (nI c)], hm)) (P := True) rfl trivial ?_
  refine jt_ti (show (hm (2, j, 0) 9) = nI (gc 0) from jf_cats Rm) ?_
  have bq1 := jw_n Wc
  refine jt_nicge jm_m19 8 (a := c) (b := gc 0) (by omega) (by omega) (tgt := 26) (nxt := 15) rfl rfl rfl (fun c12 => ?_) (fun c12 => ?_)
  · refine jt_go jm_m19 14 1 (f' := (27, [(0, .inr (.inr (2, j, 0))), (1, .inl (nI c))], [.inr (.inr (2, j, 0))], hm)) (P := True) rfl trivial ?_
    refine jt_call jm_m19 15 (mi' := 23) (as := [.inr (.inr (2, j, 0))]) (rest := []) (nxt := 30) rfl rfl jm_m23 rfl rfl (ta_clock Rm Wc) ?_
    rintro u h9 ⟨rfl, Rh9, Fh9⟩
    show jt_T 19 (30, [(0, .inr (.inr (2, j, 0))), (1, .inl (nI c))], [], h9) _
    refine jt_vret jm_m19 16 rfl ?_
    have e : c = g 0 := by omega
    subst e
    refine ⟨rfl, ?_, jf_fr_tr Fm Fh9.1, ?_⟩
    · unfold sp_hour; rw [← egc]; exact Rh9
    · unfold sp_set; rw [sp_cats_k]; exact Fh9.2.trans Cm
  · refine jt_go jm_m19 9 2 (f' := (17, [(0, .inr (.inr (2, j, 0))), (1, .inl (nI c))], [.inl (nI c), .inr (.inr (2, j, 0))], hm)) (P := True) rfl trivial ?_
    refine jt_call jm_m19 11 (mi' := 21) (as := [.inr (.inr (2, j, 0)), .inl (nI c)]) (rest := []) (nxt := 20) rfl rfl jm_m21 rfl rfl (ta_grow Rm Wc (by omega)) ?_
    rintro u h1 ⟨rfl, Rh1, Fh1⟩
    show jt_T 19 (20, [(0, .inr (.inr (2, j, 0))), (1, .inl (nI c))], [], h1) _
    refine jt_inc jm_m19 12 (c := c) (L' := [(1, .inl (nI (c + 1))), (0, .inr (.inr (2, j, 0)))]) rfl rfl rfl rfl ?_
    refine jt_go jm_m19 13 1 (f' := (7, [(1, .inl (nI (c + 1))), (0, .inr (.inr (2, j, 0)))], [], h1)) (P := True) rfl trivial ?_
    refine jt_pick (L' := [(0, .inr (.inr (2, j, 0))), (1, .inl (nI (c + 1)))]) [1, 0] rfl ?_
    have e1 : (sp_cats g true (c + 1)).1 = sp_hair gc c := by show sp_one _ c true = _; rw [← egc]; exact sp_one_k
    exact nx (by omega) h1 (by rw [e1]; exact Rh1) (jf_fr_tr Fm Fh1.1) (Fh1.2.trans Cm))
set_option maxHeartbeats 4000000 in
set_option maxRecDepth 20000 in
theorem ta_hourk {h : jm_M} {j : Nat} {g : Nat → Nat} (R : jf_rel h j g) (W : jw g)  : jt_T 19 (0, [(0, .inr (.inr (2, j, 0)))], [], h) (fun u h' => u = none ∧ jf_rel h' j (sp_hour g true) ∧ jf_fr j h h' ∧ h' (2, j, 0) 14 = nI (sp_set g true)) := by
  refine jt_goM jm_m19 0 3 (pc' := 5) (L' := [(0, .inr (.inr (2, j, 0)))]) (st' := []) (m' := jm_set h (2, j, 0) (upd (h (2, j, 0)) 14 (nI 0))) (P := True) rfl trivial (fun h1 eh1 => ?_)
  have Fh1 : jf_fr j h h1 := by rw [eh1]; exact jf_fr_set jf_fr_rf ⟨Or.inl rfl, rfl⟩
  have Rh1 : jf_rel h1 j g := by rw [eh1]; exact jf_set_cr R
  refine jt_go jm_m19 3 2 (f' := (7, [(1, .inl (nI 0)), (0, .inr (.inr (2, j, 0)))], [], h1)) (P := True) rfl trivial ?_
  refine jt_pick (L' := [(0, .inr (.inr (2, j, 0))), (1, .inl (nI 0))]) [1, 0] rfl ?_
  exact ta_hourk_l W 0 (Nat.zero_le _) _ Rh1 Fh1 (by rw [eh1, jm_set_eq, jx_eq])
set_option maxHeartbeats 4000000 in
set_option maxRecDepth 20000 in
theorem ta_goOn_l {h : jm_M} {j n : Nat} {g : Nat → Nat} (W : jw g) (hn : n < 2 ^ 31) : ∀ k, k ≤ n → ∀ hm : jm_M, (jf_rel hm j (sp_it g k)) → (jf_fr j h hm) → jt_T 17 (2, [(0, .inr (.inr (2, j, 0))), (1, .inl (nI n)), (2, .inl (nI k))], [], hm) (fun u h' => u = none ∧ jf_rel h' j (sp_it g n) ∧ jf_fr j h h') := jx_up (P := fun k => ∀ hm : jm_M, (jf_rel hm j (sp_it g k)) → (jf_fr j h hm) → jt_T 17 (2, [(0, .inr (.inr (2, j, 0))), (1, .inl (nI n)), (2, .inl (nI k))], [], hm) (fun u h' => u = none ∧ jf_rel h' j (sp_it g n) ∧ jf_fr j h h')) (fun k hk nx hm Rm Fm => by
  have Wk := (jw_it W k).1
  refine jt_go jm_m17 2 2 (f' := (4, [(0, .inr (.inr (2, j, 0))), (1, .inl (nI n)), (2, .inl (nI k))], [.inl (nI n), .inl (nI k)], hm)) (P := True) rfl trivial ?_
  refine jt_nicge jm_m17 4 (a := k) (b := n) (by omega) (by omega) (tgt := 17) (nxt := 7) rfl rfl rfl (fun c4 => ?_) (fun c4 => ?_)
  · refine jt_vret jm_m17 9 rfl ?_
    have e : k = n := by omega
    subst e
    exact ⟨rfl, Rm, Fm⟩
  · refine jt_go jm_m17 5 1 (f' := (8, [(0, .inr (.inr (2, j, 0))), (1, .inl (nI n)), (2, .inl (nI k))], [.inr (.inr (2, j, 0))], hm)) (P := True) rfl trivial ?_
    refine jt_call jm_m17 6 (mi' := 18) (as := [.inr (.inr (2, j, 0))]) (rest := []) (nxt := 11) rfl rfl jm_m18 rfl rfl (ta_hour Rm Wk) ?_
    rintro u h1 ⟨rfl, Rh1, Fh1, Ch1⟩
    show jt_T 17 (11, [(0, .inr (.inr (2, j, 0))), (1, .inl (nI n)), (2, .inl (nI k))], [], h1) _
    refine jt_inc jm_m17 7 (c := k) (L' := [(2, .inl (nI (k + 1))), (0, .inr (.inr (2, j, 0))), (1, .inl (nI n))]) rfl rfl rfl rfl ?_
    refine jt_go jm_m17 8 1 (f' := (2, [(2, .inl (nI (k + 1))), (0, .inr (.inr (2, j, 0))), (1, .inl (nI n))], [], h1)) (P := True) rfl trivial ?_
    refine jt_pick (L' := [(0, .inr (.inr (2, j, 0))), (1, .inl (nI n)), (2, .inl (nI (k + 1)))]) [1, 2, 0] rfl ?_
    exact nx c4 h1 Rh1 (jf_fr_tr Fm Fh1))
set_option maxHeartbeats 4000000 in
set_option maxRecDepth 20000 in
theorem ta_goOn {h : jm_M} {j : Nat} {g : Nat → Nat} (R : jf_rel h j g) (W : jw g) {n : Nat} (hn : n < 2 ^ 31) : jt_T 17 (0, [(0, .inr (.inr (2, j, 0))), (1, .inl (nI n))], [], h) (fun u h' => u = none ∧ jf_rel h' j (sp_it g n) ∧ jf_fr j h h') := by
  refine jt_go jm_m17 0 2 (f' := (2, [(2, .inl (nI 0)), (0, .inr (.inr (2, j, 0))), (1, .inl (nI n))], [], h)) (P := True) rfl trivial ?_
  refine jt_pick (L' := [(0, .inr (.inr (2, j, 0))), (1, .inl (nI n)), (2, .inl (nI 0))]) [1, 2, 0] rfl ?_
  exact ta_goOn_l W hn 0 (Nat.zero_le _) _ R jf_fr_rf
set_option maxHeartbeats 4000000 in
set_option maxRecDepth 20000 in
theorem ta_name {h : jm_M} {j : Nat} {g : Nat → Nat} (R : jf_rel h j g) (W : jw g) {c m : Nat} (hc : c < 6) : jt_T 15 (0, [(0, .inr (.inr (2, j, 0))), (1, .inl (nI c)), (2, .inl (nI m))], [], h) (fun u h' => u = none ∧ jf_rel h' j (sp_up (sp_up g (40 + 5 * c) m) (39 + 5 * c) 0) ∧ jf_fr j h h') := by
  refine jt_goM jm_m15 0 5 (pc' := 7) (L' := [(0, .inr (.inr (2, j, 0))), (1, .inl (nI c)), (2, .inl (nI m))]) (st' := []) (m' := jm_set h (2, j, 5) (upd (h (2, j, 5)) (nI c).toNatClampNeg (nI m))) (P := vp_in (nI c) 6 ∧ True) rfl ⟨(vp_in_nI (by omega) (by decide)), trivial⟩ (fun h1 eh1 => ?_)
  have Fh1 : jf_fr j h h1 := by rw [eh1]; exact jf_fr_set jf_fr_rf ⟨Or.inl rfl, rfl⟩
  obtain ⟨gh1, egh1⟩ : ∃ y, y = sp_up g (40 + 5 * c) (m) := ⟨_, rfl⟩
  have Rh1 : jf_rel h1 j gh1 := by rw [eh1, egh1]; exact jf_set_name R (c := c) (w := m) (nI_clamp (by omega)) (by omega) rfl
  refine jt_goM jm_m15 5 5 (pc' := 14) (L' := [(0, .inr (.inr (2, j, 0))), (1, .inl (nI c)), (2, .inl (nI m))]) (st' := []) (m' := jm_set h1 (2, j, 4) (upd (h1 (2, j, 4)) (nI c).toNatClampNeg (nI 0))) (P := vp_in (nI c) 6 ∧ True) rfl ⟨(vp_in_nI (by omega) (by decide)), trivial⟩ (fun h2 eh2 => ?_)
  have Fh2 : jf_fr j h h2 := by rw [eh2]; exact jf_fr_set Fh1 ⟨Or.inl rfl, rfl⟩
  obtain ⟨gh2, egh2⟩ : ∃ y, y = sp_up gh1 (39 + 5 * c) (0) := ⟨_, rfl⟩
  have Rh2 : jf_rel h2 j gh2 := by rw [eh2, egh2]; exact jf_set_hair Rh1 (c := c) (w := 0) (nI_clamp (by omega)) (by omega) rfl
  refine jt_vret jm_m15 10 rfl ?_
  rw [← egh1, ← egh2]
  exact ⟨rfl, Rh2, Fh2⟩
set_option maxHeartbeats 4000000 in
set_option maxRecDepth 20000 in
theorem ta_addFish {h : jm_M} {j : Nat} {g : Nat → Nat} (R : jf_rel h j g) (W : jw g) {p v : Nat} (hp : p < 16) (hv : v < 100) : jt_T 16 (0, [(0, .inr (.inr (2, j, 0))), (1, .inl (nI p)), (2, .inl (nI v))], [], h) (fun u h' => u = none ∧ jf_rel h' j (sp_up g (4 + p) (min 9 (g (4 + p) + v))) ∧ jf_fr j h h') := by
  refine jt_go jm_m16 0 8 (f' := (13, [(0, .inr (.inr (2, j, 0))), (1, .inl (nI p)), (2, .inl (nI v))], [.inl (h (6, j, 0) (nI p).toNatClampNeg), .inl (nI 9), .inl (nI p), .inr (.inr (6, j, 0))], h)) (P := vp_in (nI p) 16 ∧ True) rfl ⟨(vp_in_nI (by omega) (by decide)), trivial⟩ ?_
  refine jt_ti (show (h (6, j, 0) (nI p).toNatClampNeg) = nI (g (4 + p)) from jf_fish R (c := p) (nI_clamp (by omega)) (by omega)) ?_
  have bq1 := jw_fish W (p := p) (by omega)
  refine jt_go jm_m16 8 2 (f' := (15, [(0, .inr (.inr (2, j, 0))), (1, .inl (nI p)), (2, .inl (nI v))], [.inl ((nI (g (4 + p))) + (nI v)), .inl (nI 9), .inl (nI p), .inr (.inr (6, j, 0))], h)) (P := True) rfl trivial ?_
  refine jt_ti (show ((nI (g (4 + p))) + (nI v)) = nI (g (4 + p) + v) from nI_add _ _) ?_
  refine jt_go jm_m16 10 1 (f' := (18, [(0, .inr (.inr (2, j, 0))), (1, .inl (nI p)), (2, .inl (nI v))], [.inl (if (nI (g (4 + p) + v)) < (nI 9) then (nI (g (4 + p) + v)) else (nI 9)), .inl (nI p), .inr (.inr (6, j, 0))], h)) (P := True) rfl trivial ?_
  refine jt_ti (show (if (nI (g (4 + p) + v)) < (nI 9) then (nI (g (4 + p) + v)) else (nI 9)) = nI (min 9 (g (4 + p) + v)) from jx_min (by omega) (by omega)) ?_
  refine jt_goM jm_m16 11 1 (pc' := 19) (L' := [(0, .inr (.inr (2, j, 0))), (1, .inl (nI p)), (2, .inl (nI v))]) (st' := []) (m' := jm_set h (6, j, 0) (upd (h (6, j, 0)) (nI p).toNatClampNeg (nI (min 9 (g (4 + p) + v))))) (P := vp_in (nI p) 16 ∧ True) rfl ⟨(vp_in_nI (by omega) (by decide)), trivial⟩ (fun h1 eh1 => ?_)
  have Fh1 : jf_fr j h h1 := by rw [eh1]; exact jf_fr_set jf_fr_rf ⟨Or.inr rfl, rfl⟩
  obtain ⟨gh1, egh1⟩ : ∃ y, y = sp_up g (4 + p) (min 9 (g (4 + p) + v)) := ⟨_, rfl⟩
  have Rh1 : jf_rel h1 j gh1 := by rw [eh1, egh1]; exact jf_set_fish R (c := p) (w := min 9 (g (4 + p) + v)) (nI_clamp (by omega)) (by omega) rfl
  refine jt_vret jm_m16 12 rfl ?_
  rw [← egh1]
  exact ⟨rfl, Rh1, Fh1⟩
set_option maxHeartbeats 4000000 in
set_option maxRecDepth 20000 in
theorem ta_fish_l {h : jm_M} {j : Nat} {g : Nat → Nat} (R : jf_rel h j g) (W : jw g)  : ∀ k, k ≤ 16 → jt_T 31 (4, [(0, .inr (.inr (2, j, 0))), (1, .inl (nI (sp_sum (fun p => g (4 + p)) k))), (2, .inl (nI k))], [], h) (fun u h' => u = some (.inl (nI (sp_sum (fun p => g (4 + p)) 16))) ∧ h' = h) := jx_up (fun k hk nx => by
  refine jt_go jm_m31 4 2 (f' := (7, [(0, .inr (.inr (2, j, 0))), (1, .inl (nI (sp_sum (fun p => g (4 + p)) k))), (2, .inl (nI k))], [.inl (nI 16), .inl (nI k)], h)) (P := True) rfl trivial ?_
  refine jt_nicge jm_m31 6 (a := k) (b := 16) (by omega) (by omega) (tgt := 25) (nxt := 10) rfl rfl rfl (fun c7 => ?_) (fun c7 => ?_)
  · refine jt_go jm_m31 16 1 (f' := (26, [(0, .inr (.inr (2, j, 0))), (1, .inl (nI (sp_sum (fun p => g (4 + p)) k))), (2, .inl (nI k))], [.inl (nI (sp_sum (fun p => g (4 + p)) k))], h)) (P := True) rfl trivial ?_
    refine jt_iret jm_m31 17 rfl ?_
    have e : k = 16 := by omega
    subst e
    exact ⟨rfl, rfl⟩
  · refine jt_go jm_m31 7 5 (f' := (17, [(0, .inr (.inr (2, j, 0))), (1, .inl (nI (sp_sum (fun p => g (4 + p)) k))), (2, .inl (nI k))], [.inl (h (6, j, 0) (nI k).toNatClampNeg), .inl (nI (sp_sum (fun p => g (4 + p)) k))], h)) (P := vp_in (nI k) 16 ∧ True) rfl ⟨(vp_in_nI (by omega) (by decide)), trivial⟩ ?_
    refine jt_ti (show (h (6, j, 0) (nI k).toNatClampNeg) = nI (g (4 + k)) from jf_fish R (c := k) (nI_clamp (by omega)) (by omega)) ?_
    have bq1 := jw_fish W (p := k) (by omega)
    refine jt_go jm_m31 12 1 (f' := (18, [(0, .inr (.inr (2, j, 0))), (1, .inl (nI (sp_sum (fun p => g (4 + p)) k))), (2, .inl (nI k))], [.inl ((nI (sp_sum (fun p => g (4 + p)) k)) + (nI (g (4 + k))))], h)) (P := True) rfl trivial ?_
    refine jt_ti (show ((nI (sp_sum (fun p => g (4 + p)) k)) + (nI (g (4 + k)))) = nI (sp_sum (fun p => g (4 + p)) k + (g (4 + k))) from nI_add _ _) ?_
    refine jt_go jm_m31 13 1 (f' := (19, [(1, .inl (nI (sp_sum (fun p => g (4 + p)) k + (g (4 + k))))), (0, .inr (.inr (2, j, 0))), (2, .inl (nI k))], [], h)) (P := True) rfl trivial ?_
    refine jt_inc jm_m31 14 (c := k) (L' := [(2, .inl (nI (k + 1))), (1, .inl (nI (sp_sum (fun p => g (4 + p)) k + (g (4 + k))))), (0, .inr (.inr (2, j, 0)))]) rfl rfl rfl rfl ?_
    refine jt_go jm_m31 15 1 (f' := (4, [(2, .inl (nI (k + 1))), (1, .inl (nI (sp_sum (fun p => g (4 + p)) k + (g (4 + k))))), (0, .inr (.inr (2, j, 0)))], [], h)) (P := True) rfl trivial ?_
    refine jt_pick (L' := [(0, .inr (.inr (2, j, 0))), (1, .inl (nI (sp_sum (fun p => g (4 + p)) k + (g (4 + k))))), (2, .inl (nI (k + 1)))]) [2, 1, 0] rfl ?_
    exact nx c7)
set_option maxHeartbeats 4000000 in
set_option maxRecDepth 20000 in
theorem ta_fish {h : jm_M} {j : Nat} {g : Nat → Nat} (R : jf_rel h j g) (W : jw g)  : jt_Pu 31 [.inr (.inr (2, j, 0))] h (.inl (nI (sp_sum (fun p => g (4 + p)) 16))) := by
  show jt_T 31 (0, [(0, .inr (.inr (2, j, 0)))], [], h) _
  refine jt_go jm_m31 0 4 (f' := (4, [(2, .inl (nI 0)), (1, .inl (nI 0)), (0, .inr (.inr (2, j, 0)))], [], h)) (P := True) rfl trivial ?_
  refine jt_pick (L' := [(0, .inr (.inr (2, j, 0))), (1, .inl (nI 0)), (2, .inl (nI 0))]) [2, 1, 0] rfl ?_
  exact ta_fish_l R W 0 (Nat.zero_le _)
set_option maxHeartbeats 4000000 in
set_option maxRecDepth 20000 in
theorem ta_side1_l {h : jm_M} {j : Nat} {g : Nat → Nat} (R : jf_rel h j g) (W : jw g)  : ∀ k, k ≤ g 0 → jt_T 30 (4, [(0, .inr (.inr (2, j, 0))), (1, .inl (nI (sp_sum (fun c => sp_sd (g (38 + 5 * c))) k))), (2, .inl (nI k))], [], h) (fun u h' => u = some (.inl (nI (sp_sum (fun c => sp_sd (g (38 + 5 * c))) (g 0)))) ∧ h' = h) := jx_up (fun k hk nx => by
  have bn := jw_n W
  have bm := jw_m W
  have bt := jw_t W
  refine jt_go jm_m30 4 3 (f' := (9, [(0, .inr (.inr (2, j, 0))), (1, .inl (nI (sp_sum (fun c => sp_sd (g (38 + 5 * c))) k))), (2, .inl (nI k))], [.inl (h (2, j, 0) 9), .inl (nI k)], h)) (P := True) rfl trivial ?_
  refine jt_ti (show (h (2, j, 0) 9) = nI (g 0) from jf_cats R) ?_
  have bq1 := jw_n W
  refine jt_nicge jm_m30 7 (a := k) (b := g 0) (by omega) (by omega) (tgt := 30) (nxt := 12) rfl rfl rfl (fun c9 => ?_) (fun c9 => ?_)
  · refine jt_go jm_m30 18 1 (f' := (31, [(0, .inr (.inr (2, j, 0))), (1, .inl (nI (sp_sum (fun c => sp_sd (g (38 + 5 * c))) k))), (2, .inl (nI k))], [.inl (nI (sp_sum (fun c => sp_sd (g (38 + 5 * c))) k))], h)) (P := True) rfl trivial ?_
    refine jt_iret jm_m30 19 rfl ?_
    have e : k = g 0 := by omega
    subst e
    exact ⟨rfl, rfl⟩
  · refine jt_go jm_m30 8 5 (f' := (19, [(0, .inr (.inr (2, j, 0))), (1, .inl (nI (sp_sum (fun c => sp_sd (g (38 + 5 * c))) k))), (2, .inl (nI k))], [.inl (h (2, j, 3) (nI k).toNatClampNeg), .inl (nI (sp_sum (fun c => sp_sd (g (38 + 5 * c))) k))], h)) (P := vp_in (nI k) 6 ∧ True) rfl ⟨(vp_in_nI (by omega) (by decide)), trivial⟩ ?_
    refine jt_ti (show (h (2, j, 3) (nI k).toNatClampNeg) = nI (g (38 + 5 * k)) from jf_at R (c := k) (nI_clamp (by omega)) (by omega)) ?_
    have bq2 := jw_at W (c := k) (by omega)
    refine jt_callp (w := .inl (nI (sp_sd (g (38 + 5 * k))))) jm_m30 13 (mi' := 142) (as := [.inl (nI (g (38 + 5 * k)))]) (rest := [.inl (nI (sp_sum (fun c => sp_sd (g (38 + 5 * c))) k))]) (nxt := 22) rfl rfl jm_m142 rfl rfl (ta_sideOf (by omega)) ?_
    have bq3 := sp_sd_le (g (38 + 5 * k))
    refine jt_go jm_m30 14 1 (f' := (23, [(0, .inr (.inr (2, j, 0))), (1, .inl (nI (sp_sum (fun c => sp_sd (g (38 + 5 * c))) k))), (2, .inl (nI k))], [.inl ((nI (sp_sum (fun c => sp_sd (g (38 + 5 * c))) k)) + (nI (sp_sd (g (38 + 5 * k)))))], h)) (P := True) rfl trivial ?_
    refine jt_ti (show ((nI (sp_sum (fun c => sp_sd (g (38 + 5 * c))) k)) + (nI (sp_sd (g (38 + 5 * k))))) = nI (sp_sum (fun c => sp_sd (g (38 + 5 * c))) k + (sp_sd (g (38 + 5 * k)))) from nI_add _ _) ?_
    refine jt_go jm_m30 15 1 (f' := (24, [(1, .inl (nI (sp_sum (fun c => sp_sd (g (38 + 5 * c))) k + (sp_sd (g (38 + 5 * k)))))), (0, .inr (.inr (2, j, 0))), (2, .inl (nI k))], [], h)) (P := True) rfl trivial ?_
    refine jt_inc jm_m30 16 (c := k) (L' := [(2, .inl (nI (k + 1))), (1, .inl (nI (sp_sum (fun c => sp_sd (g (38 + 5 * c))) k + (sp_sd (g (38 + 5 * k)))))), (0, .inr (.inr (2, j, 0)))]) rfl rfl rfl rfl ?_
    refine jt_go jm_m30 17 1 (f' := (4, [(2, .inl (nI (k + 1))), (1, .inl (nI (sp_sum (fun c => sp_sd (g (38 + 5 * c))) k + (sp_sd (g (38 + 5 * k)))))), (0, .inr (.inr (2, j, 0)))], [], h)) (P := True) rfl trivial ?_
    refine jt_pick (L' := [(0, .inr (.inr (2, j, 0))), (1, .inl (nI (sp_sum (fun c => sp_sd (g (38 + 5 * c))) k + (sp_sd (g (38 + 5 * k)))))), (2, .inl (nI (k + 1)))]) [2, 1, 0] rfl ?_
    exact nx c9)
set_option maxHeartbeats 4000000 in
set_option maxRecDepth 20000 in
theorem ta_side1 {h : jm_M} {j : Nat} {g : Nat → Nat} (R : jf_rel h j g) (W : jw g)  : jt_Pu 30 [.inr (.inr (2, j, 0))] h (.inl (nI (sp_sum (fun c => sp_sd (g (38 + 5 * c))) (g 0)))) := by
  show jt_T 30 (0, [(0, .inr (.inr (2, j, 0)))], [], h) _
  refine jt_go jm_m30 0 4 (f' := (4, [(2, .inl (nI 0)), (1, .inl (nI 0)), (0, .inr (.inr (2, j, 0)))], [], h)) (P := True) rfl trivial ?_
  refine jt_pick (L' := [(0, .inr (.inr (2, j, 0))), (1, .inl (nI 0)), (2, .inl (nI 0))]) [2, 1, 0] rfl ?_
  exact ta_side1_l R W 0 (Nat.zero_le _)
set_option maxHeartbeats 4000000 in
set_option maxRecDepth 20000 in
theorem ta_readable_l {h : jm_M} {j : Nat} {g : Nat → Nat} (R : jf_rel h j g) (W : jw g)  : ∀ k, k ≤ g 0 → jt_T 27 (4, [(0, .inr (.inr (2, j, 0))), (1, .inl (nI (sp_bits (fun c => decide (sp_read g c)) k))), (2, .inl (nI k))], [], h) (fun u h' => u = some (.inl (nI (sp_bits (fun c => decide (sp_read g c)) (g 0)))) ∧ h' = h) := jx_up (fun k hk nx => by
  have bn := jw_n W
  have bm := jw_m W
  have bt := jw_t W
  have bs := sp_bits_lt (fun c => decide (sp_read g c)) k
  refine jt_go jm_m27 4 3 (f' := (9, [(0, .inr (.inr (2, j, 0))), (1, .inl (nI (sp_bits (fun c => decide (sp_read g c)) k))), (2, .inl (nI k))], [.inl (h (2, j, 0) 9), .inl (nI k)], h)) (P := True) rfl trivial ?_
  refine jt_ti (show (h (2, j, 0) 9) = nI (g 0) from jf_cats R) ?_
  have bq1 := jw_n W
  refine jt_nicge jm_m27 7 (a := k) (b := g 0) (by omega) (by omega) (tgt := 32) (nxt := 12) rfl rfl rfl (fun c9 => ?_) (fun c9 => ?_)
  · refine jt_go jm_m27 20 1 (f' := (33, [(0, .inr (.inr (2, j, 0))), (1, .inl (nI (sp_bits (fun c => decide (sp_read g c)) k))), (2, .inl (nI k))], [.inl (nI (sp_bits (fun c => decide (sp_read g c)) k))], h)) (P := True) rfl trivial ?_
    refine jt_iret jm_m27 21 rfl ?_
    have e : k = g 0 := by omega
    subst e
    exact ⟨rfl, rfl⟩
  · refine jt_go jm_m27 8 2 (f' := (14, [(0, .inr (.inr (2, j, 0))), (1, .inl (nI (sp_bits (fun c => decide (sp_read g c)) k))), (2, .inl (nI k))], [.inl (nI k), .inr (.inr (2, j, 0))], h)) (P := True) rfl trivial ?_
    refine jt_callp (w := .inl (jm_b (sp_read g k))) jm_m27 10 (mi' := 26) (as := [.inr (.inr (2, j, 0)), .inl (nI k)]) (rest := []) (nxt := 17) rfl rfl jm_m26 rfl rfl (ta_read R W (by omega)) ?_
    refine jt_ifbeq jm_m27 11 (tgt := 26) (nxt := 20) rfl rfl rfl (fun c17 => ?_) (fun c17 => ?_)
    · refine jt_inc jm_m27 18 (c := k) (L' := [(2, .inl (nI (k + 1))), (0, .inr (.inr (2, j, 0))), (1, .inl (nI (sp_bits (fun c => decide (sp_read g c)) k)))]) rfl rfl rfl rfl ?_
      refine jt_go jm_m27 19 1 (f' := (4, [(2, .inl (nI (k + 1))), (0, .inr (.inr (2, j, 0))), (1, .inl (nI (sp_bits (fun c => decide (sp_read g c)) k)))], [], h)) (P := True) rfl trivial ?_
      refine jt_pick (L' := [(0, .inr (.inr (2, j, 0))), (1, .inl (nI (sp_bits (fun c => decide (sp_read g c)) k))), (2, .inl (nI (k + 1)))]) [1, 2, 0] rfl ?_
      have e : sp_bits (fun c => decide (sp_read g c)) (k + 1) = sp_bits (fun c => decide (sp_read g c)) k := if_neg (fun z => c17 (of_decide_eq_true z))
      have q := nx c9
      rw [e] at q
      exact q
    · refine jt_go jm_m27 12 5 (f' := (25, [(0, .inr (.inr (2, j, 0))), (1, .inl (nI (sp_bits (fun c => decide (sp_read g c)) k))), (2, .inl (nI k))], [.inl ((nI (sp_bits (fun c => decide (sp_read g c)) k)) ||| ((nI 1) <<< ((nI k) &&& 31)))], h)) (P := True) rfl trivial ?_
      refine jt_ti (show ((nI (sp_bits (fun c => decide (sp_read g c)) k)) ||| ((nI 1) <<< ((nI k) &&& 31))) = nI (sp_bits (fun c => decide (sp_read g c)) k + 2 ^ k) from jx_orb _ (by have := jx_p32 (c := k) (by omega); omega) _ (by omega) (by rw [Nat.div_eq_of_lt bs])) ?_
      refine jt_go jm_m27 17 1 (f' := (26, [(1, .inl (nI (sp_bits (fun c => decide (sp_read g c)) k + 2 ^ k))), (0, .inr (.inr (2, j, 0))), (2, .inl (nI k))], [], h)) (P := True) rfl trivial ?_
      refine jt_inc jm_m27 18 (c := k) (L' := [(2, .inl (nI (k + 1))), (1, .inl (nI (sp_bits (fun c => decide (sp_read g c)) k + 2 ^ k))), (0, .inr (.inr (2, j, 0)))]) rfl rfl rfl rfl ?_
      refine jt_go jm_m27 19 1 (f' := (4, [(2, .inl (nI (k + 1))), (1, .inl (nI (sp_bits (fun c => decide (sp_read g c)) k + 2 ^ k))), (0, .inr (.inr (2, j, 0)))], [], h)) (P := True) rfl trivial ?_
      refine jt_pick (L' := [(0, .inr (.inr (2, j, 0))), (1, .inl (nI (sp_bits (fun c => decide (sp_read g c)) k + 2 ^ k))), (2, .inl (nI (k + 1)))]) [2, 1, 0] rfl ?_
      have e : sp_bits (fun c => decide (sp_read g c)) (k + 1) = sp_bits (fun c => decide (sp_read g c)) k + 2 ^ k := if_pos (decide_eq_true c17)
      have q := nx c9
      rw [e] at q
      exact q)
set_option maxHeartbeats 4000000 in
set_option maxRecDepth 20000 in
theorem ta_readable {h : jm_M} {j : Nat} {g : Nat → Nat} (R : jf_rel h j g) (W : jw g)  : jt_Pu 27 [.inr (.inr (2, j, 0))] h (.inl (nI (sp_bits (fun c => decide (sp_read g c)) (g 0)))) := by
  show jt_T 27 (0, [(0, .inr (.inr (2, j, 0)))], [], h) _
  refine jt_go jm_m27 0 4 (f' := (4, [(2, .inl (nI 0)), (1, .inl (nI 0)), (0, .inr (.inr (2, j, 0)))], [], h)) (P := True) rfl trivial ?_
  refine jt_pick (L' := [(0, .inr (.inr (2, j, 0))), (1, .inl (nI 0)), (2, .inl (nI 0))]) [2, 1, 0] rfl ?_
  exact ta_readable_l R W  0 (Nat.zero_le _)
set_option maxHeartbeats 4000000 in
set_option maxRecDepth 20000 in
theorem ta_catsAt_l {h : jm_M} {j : Nat} {g : Nat → Nat} (R : jf_rel h j g) (W : jw g) {p : Nat} (hp : p < 16) : ∀ k, k ≤ g 0 → jt_T 28 (4, [(0, .inr (.inr (2, j, 0))), (1, .inl (nI p)), (2, .inl (nI (sp_bits (fun c => decide (g (38 + 5 * c) = p)) k))), (3, .inl (nI k))], [], h) (fun u h' => u = some (.inl (nI (sp_bits (fun c => decide (g (38 + 5 * c) = p)) (g 0)))) ∧ h' = h) := jx_up (fun k hk nx => by
  have bn := jw_n W
  have bm := jw_m W
  have bt := jw_t W
  have bs := sp_bits_lt (fun c => decide (g (38 + 5 * c) = p)) k
  refine jt_go jm_m28 4 3 (f' := (9, [(0, .inr (.inr (2, j, 0))), (1, .inl (nI p)), (2, .inl (nI (sp_bits (fun c => decide (g (38 + 5 * c) = p)) k))), (3, .inl (nI k))], [.inl (h (2, j, 0) 9), .inl (nI k)], h)) (P := True) rfl trivial ?_
  refine jt_ti (show (h (2, j, 0) 9) = nI (g 0) from jf_cats R) ?_
  have bq1 := jw_n W
  refine jt_nicge jm_m28 7 (a := k) (b := g 0) (by omega) (by omega) (tgt := 34) (nxt := 12) rfl rfl rfl (fun c9 => ?_) (fun c9 => ?_)
  · refine jt_go jm_m28 22 1 (f' := (35, [(0, .inr (.inr (2, j, 0))), (1, .inl (nI p)), (2, .inl (nI (sp_bits (fun c => decide (g (38 + 5 * c) = p)) k))), (3, .inl (nI k))], [.inl (nI (sp_bits (fun c => decide (g (38 + 5 * c) = p)) k))], h)) (P := True) rfl trivial ?_
    refine jt_iret jm_m28 23 rfl ?_
    have e : k = g 0 := by omega
    subst e
    exact ⟨rfl, rfl⟩
  · refine jt_go jm_m28 8 4 (f' := (18, [(0, .inr (.inr (2, j, 0))), (1, .inl (nI p)), (2, .inl (nI (sp_bits (fun c => decide (g (38 + 5 * c) = p)) k))), (3, .inl (nI k))], [.inl (h (2, j, 3) (nI k).toNatClampNeg)], h)) (P := vp_in (nI k) 6 ∧ True) rfl ⟨(vp_in_nI (by omega) (by decide)), trivial⟩ ?_
    refine jt_ti (show (h (2, j, 3) (nI k).toNatClampNeg) = nI (g (38 + 5 * k)) from jf_at R (c := k) (nI_clamp (by omega)) (by omega)) ?_
    have bq2 := jw_at W (c := k) (by omega)
    refine jt_go jm_m28 12 1 (f' := (19, [(0, .inr (.inr (2, j, 0))), (1, .inl (nI p)), (2, .inl (nI (sp_bits (fun c => decide (g (38 + 5 * c) = p)) k))), (3, .inl (nI k))], [.inl (nI p), .inl (nI (g (38 + 5 * k)))], h)) (P := True) rfl trivial ?_
    refine jt_nicne jm_m28 13 (a := g (38 + 5 * k)) (b := p) (by omega) (by omega) (tgt := 28) (nxt := 22) rfl rfl rfl (fun c19 => ?_) (fun c19 => ?_)
    · refine jt_inc jm_m28 20 (c := k) (L' := [(3, .inl (nI (k + 1))), (0, .inr (.inr (2, j, 0))), (1, .inl (nI p)), (2, .inl (nI (sp_bits (fun c => decide (g (38 + 5 * c) = p)) k)))]) rfl rfl rfl rfl ?_
      refine jt_go jm_m28 21 1 (f' := (4, [(3, .inl (nI (k + 1))), (0, .inr (.inr (2, j, 0))), (1, .inl (nI p)), (2, .inl (nI (sp_bits (fun c => decide (g (38 + 5 * c) = p)) k)))], [], h)) (P := True) rfl trivial ?_
      refine jt_pick (L' := [(0, .inr (.inr (2, j, 0))), (1, .inl (nI p)), (2, .inl (nI (sp_bits (fun c => decide (g (38 + 5 * c) = p)) k))), (3, .inl (nI (k + 1)))]) [1, 2, 3, 0] rfl ?_
      have e : sp_bits (fun c => decide (g (38 + 5 * c) = p)) (k + 1) = sp_bits (fun c => decide (g (38 + 5 * c) = p)) k := if_neg (fun z => c19 (of_decide_eq_true z))
      have q := nx c9
      rw [e] at q
      exact q
    · refine jt_go jm_m28 14 5 (f' := (27, [(0, .inr (.inr (2, j, 0))), (1, .inl (nI p)), (2, .inl (nI (sp_bits (fun c => decide (g (38 + 5 * c) = p)) k))), (3, .inl (nI k))], [.inl ((nI (sp_bits (fun c => decide (g (38 + 5 * c) = p)) k)) ||| ((nI 1) <<< ((nI k) &&& 31)))], h)) (P := True) rfl trivial ?_
      refine jt_ti (show ((nI (sp_bits (fun c => decide (g (38 + 5 * c) = p)) k)) ||| ((nI 1) <<< ((nI k) &&& 31))) = nI (sp_bits (fun c => decide (g (38 + 5 * c) = p)) k + 2 ^ k) from jx_orb _ (by have := jx_p32 (c := k) (by omega); omega) _ (by omega) (by rw [Nat.div_eq_of_lt bs])) ?_
      refine jt_go jm_m28 19 1 (f' := (28, [(2, .inl (nI (sp_bits (fun c => decide (g (38 + 5 * c) = p)) k + 2 ^ k))), (0, .inr (.inr (2, j, 0))), (1, .inl (nI p)), (3, .inl (nI k))], [], h)) (P := True) rfl trivial ?_
      refine jt_inc jm_m28 20 (c := k) (L' := [(3, .inl (nI (k + 1))), (2, .inl (nI (sp_bits (fun c => decide (g (38 + 5 * c) = p)) k + 2 ^ k))), (0, .inr (.inr (2, j, 0))), (1, .inl (nI p))]) rfl rfl rfl rfl ?_
      refine jt_go jm_m28 21 1 (f' := (4, [(3, .inl (nI (k + 1))), (2, .inl (nI (sp_bits (fun c => decide (g (38 + 5 * c) = p)) k + 2 ^ k))), (0, .inr (.inr (2, j, 0))), (1, .inl (nI p))], [], h)) (P := True) rfl trivial ?_
      refine jt_pick (L' := [(0, .inr (.inr (2, j, 0))), (1, .inl (nI p)), (2, .inl (nI (sp_bits (fun c => decide (g (38 + 5 * c) = p)) k + 2 ^ k))), (3, .inl (nI (k + 1)))]) [2, 3, 1, 0] rfl ?_
      have e : sp_bits (fun c => decide (g (38 + 5 * c) = p)) (k + 1) = sp_bits (fun c => decide (g (38 + 5 * c) = p)) k + 2 ^ k := if_pos (decide_eq_true c19)
      have q := nx c9
      rw [e] at q
      exact q)
set_option maxHeartbeats 4000000 in
set_option maxRecDepth 20000 in
theorem ta_catsAt {h : jm_M} {j : Nat} {g : Nat → Nat} (R : jf_rel h j g) (W : jw g) {p : Nat} (hp : p < 16) : jt_Pu 28 [.inr (.inr (2, j, 0)), .inl (nI p)] h (.inl (nI (sp_bits (fun c => decide (g (38 + 5 * c) = p)) (g 0)))) := by
  show jt_T 28 (0, [(0, .inr (.inr (2, j, 0))), (1, .inl (nI p))], [], h) _
  refine jt_go jm_m28 0 4 (f' := (4, [(3, .inl (nI 0)), (2, .inl (nI 0)), (0, .inr (.inr (2, j, 0))), (1, .inl (nI p))], [], h)) (P := True) rfl trivial ?_
  refine jt_pick (L' := [(0, .inr (.inr (2, j, 0))), (1, .inl (nI p)), (2, .inl (nI 0)), (3, .inl (nI 0))]) [2, 3, 1, 0] rfl ?_
  exact ta_catsAt_l R W hp 0 (Nat.zero_le _)
set_option maxHeartbeats 4000000 in
set_option maxRecDepth 20000 in
theorem ta_plc_l {h : jm_M} {j : Nat} {g : Nat → Nat} (R : jf_rel h j g) (W : jw g)  : ∀ k, k ≤ g 0 → jt_T 29 (4, [(0, .inr (.inr (2, j, 0))), (1, .inl (sp_plc g k)), (2, .inl (nI k))], [], h) (fun u h' => u = some (.inl (sp_plc g (g 0))) ∧ h' = h) := jx_up (fun k hk nx => by
  have bn := jw_n W
  have bm := jw_m W
  have bt := jw_t W
  refine jt_go jm_m29 4 3 (f' := (9, [(0, .inr (.inr (2, j, 0))), (1, .inl (sp_plc g k)), (2, .inl (nI k))], [.inl (h (2, j, 0) 9), .inl (nI k)], h)) (P := True) rfl trivial ?_
  refine jt_ti (show (h (2, j, 0) 9) = nI (g 0) from jf_cats R) ?_
  have bq1 := jw_n W
  refine jt_nicge jm_m29 7 (a := k) (b := g 0) (by omega) (by omega) (tgt := 29) (nxt := 12) rfl rfl rfl (fun c9 => ?_) (fun c9 => ?_)
  · refine jt_go jm_m29 19 1 (f' := (30, [(0, .inr (.inr (2, j, 0))), (1, .inl (sp_plc g k)), (2, .inl (nI k))], [.inl (sp_plc g k)], h)) (P := True) rfl trivial ?_
    refine jt_iret jm_m29 20 rfl ?_
    have e : k = g 0 := by omega
    subst e
    exact ⟨rfl, rfl⟩
  · refine jt_go jm_m29 8 6 (f' := (20, [(0, .inr (.inr (2, j, 0))), (1, .inl (sp_plc g k)), (2, .inl (nI k))], [.inl (h (2, j, 3) (nI k).toNatClampNeg), .inl (nI 1), .inl (sp_plc g k)], h)) (P := vp_in (nI k) 6 ∧ True) rfl ⟨(vp_in_nI (by omega) (by decide)), trivial⟩ ?_
    refine jt_ti (show (h (2, j, 3) (nI k).toNatClampNeg) = nI (g (38 + 5 * k)) from jf_at R (c := k) (nI_clamp (by omega)) (by omega)) ?_
    have bq2 := jw_at W (c := k) (by omega)
    refine jt_go jm_m29 14 3 (f' := (23, [(1, .inl ((sp_plc g k) ||| ((nI 1) <<< ((nI (g (38 + 5 * k))) &&& 31)))), (0, .inr (.inr (2, j, 0))), (2, .inl (nI k))], [], h)) (P := True) rfl trivial ?_
    refine jt_inc jm_m29 17 (c := k) (L' := [(2, .inl (nI (k + 1))), (1, .inl ((sp_plc g k) ||| ((nI 1) <<< ((nI (g (38 + 5 * k))) &&& 31)))), (0, .inr (.inr (2, j, 0)))]) rfl rfl rfl rfl ?_
    refine jt_go jm_m29 18 1 (f' := (4, [(2, .inl (nI (k + 1))), (1, .inl ((sp_plc g k) ||| ((nI 1) <<< ((nI (g (38 + 5 * k))) &&& 31)))), (0, .inr (.inr (2, j, 0)))], [], h)) (P := True) rfl trivial ?_
    refine jt_pick (L' := [(0, .inr (.inr (2, j, 0))), (1, .inl ((sp_plc g k) ||| ((nI 1) <<< ((nI (g (38 + 5 * k))) &&& 31)))), (2, .inl (nI (k + 1)))]) [2, 1, 0] rfl ?_
    exact nx c9)
set_option maxHeartbeats 4000000 in
set_option maxRecDepth 20000 in
theorem ta_plc {h : jm_M} {j : Nat} {g : Nat → Nat} (R : jf_rel h j g) (W : jw g)  : jt_Pu 29 [.inr (.inr (2, j, 0))] h (.inl (sp_plc g (g 0))) := by
  show jt_T 29 (0, [(0, .inr (.inr (2, j, 0)))], [], h) _
  refine jt_go jm_m29 0 4 (f' := (4, [(2, .inl (nI 0)), (1, .inl (nI 0)), (0, .inr (.inr (2, j, 0)))], [], h)) (P := True) rfl trivial ?_
  refine jt_pick (L' := [(0, .inr (.inr (2, j, 0))), (1, .inl (nI 0)), (2, .inl (nI 0))]) [2, 1, 0] rfl ?_
  exact ta_plc_l R W 0 (Nat.zero_le _)
end
section
/-! PURE: the reference's ways to the same numbers. -/
theorem sp_ap_ge {a b : Nat} (h : b ≤ a) : sp_ap a b = a - b := by unfold sp_ap; rw [if_neg (by omega)]
theorem sp_ap_l {a b : Nat} (h : a < b) : sp_ap a b = b - a := by unfold sp_ap; rw [if_pos h]
theorem sp_ap_0 {a b : Nat} : sp_ap a b = 0 ↔ a = b := by unfold sp_ap; split <;> omega
theorem sp_ap_cm (a b : Nat) : sp_ap a b = sp_ap b a := by unfold sp_ap; split <;> split <;> omega
def sp_most (g : Nat → Nat) (o fm : Nat) : Nat → Nat × Nat
  | 0 => (fm, 0)
  | k + 1 => if g (o + k) = 0 ∨ g (o + k) < (sp_most g o fm k).2 ∨ (g (o + k) = (sp_most g o fm k).2 ∧ sp_ap (sp_most g o fm k).1 fm ≤ sp_ap k fm) then sp_most g o fm k else (k, g (o + k))
/-- p does not come ahead of r -/
def sp_nb (g : Nat → Nat) (o fm r p : Nat) : Prop := g (o + p) < g (o + r) ∨ (g (o + p) = g (o + r) ∧ (sp_ap r fm < sp_ap p fm ∨ (sp_ap r fm = sp_ap p fm ∧ r ≤ p)))
theorem sp_rich_nb (g : Nat → Nat) (o fm : Nat) : ∀ k, (sp_rich g o fm k = fm ∨ sp_rich g o fm k < k) ∧ sp_nb g o fm (sp_rich g o fm k) fm ∧ ∀ p, p < k → sp_nb g o fm (sp_rich g o fm k) p := by
  intro k
  have z : sp_ap fm fm = 0 := sp_ap_0.mpr rfl
  induction k with
  | zero => exact ⟨Or.inl rfl, Or.inr ⟨rfl, Or.inr ⟨rfl, Nat.le_refl _⟩⟩, fun p hp => absurd hp (by omega)⟩
  | succ k ih =>
    obtain ⟨h1, h2, h3⟩ := ih
    unfold sp_rich
    split
    · rename_i q
      refine ⟨Or.inr (by omega), ?_, fun p hp => ?_⟩
      · unfold sp_nb at h2 ⊢
        omega
      · by_cases e : p = k
        · subst e; exact Or.inr ⟨rfl, Or.inr ⟨rfl, Nat.le_refl _⟩⟩
        · have h4 := h3 p (by omega)
          unfold sp_nb at h4 ⊢
          omega
    · rename_i q
      refine ⟨by omega, h2, fun p hp => ?_⟩
      by_cases e : p = k
      · subst e
        unfold sp_nb
        rcases h1 with h1 | h1
        · rw [h1, z] at q ⊢
          by_cases e2 : sp_ap p fm = 0
          · have := sp_ap_0.mp e2
            omega
          · omega
        · omega
      · exact h3 p (by omega)
theorem sp_most_nb (g : Nat → Nat) (o fm : Nat) : ∀ k, ((sp_most g o fm k).1 = fm ∧ (sp_most g o fm k).2 = 0 ∧ ∀ p, p < k → g (o + p) = 0) ∨ ((sp_most g o fm k).1 < k ∧ (sp_most g o fm k).2 = g (o + (sp_most g o fm k).1) ∧ 0 < (sp_most g o fm k).2 ∧ ∀ p, p < k → sp_nb g o fm (sp_most g o fm k).1 p) := by
  intro k
  induction k with
  | zero => exact Or.inl ⟨rfl, rfl, fun p hp => absurd hp (by omega)⟩
  | succ k ih =>
    unfold sp_most
    split
    · rename_i q
      rcases ih with ⟨h1, h2, h3⟩ | ⟨h1, h2, h3, h4⟩
      · refine Or.inl ⟨h1, h2, fun p hp => ?_⟩
        by_cases e : p = k
        · subst e
          rw [h1, h2] at q
          rcases q with q | q | q
          · exact q
          · omega
          · exact q.1
        · exact h3 p (by omega)
      · refine Or.inr ⟨by omega, h2, h3, fun p hp => ?_⟩
        by_cases e : p = k
        · subst e
          unfold sp_nb
          omega
        · exact h4 p (by omega)
    · rename_i q
      refine Or.inr ⟨by dsimp only; omega, rfl, by dsimp only; omega, fun p hp => ?_⟩
      dsimp only
      by_cases e : p = k
      · subst e; exact Or.inr ⟨rfl, Or.inr ⟨rfl, Nat.le_refl _⟩⟩
      · rcases ih with ⟨h1, h2, h3⟩ | ⟨h1, h2, h3, h4⟩
        · have := h3 p (by omega)
          unfold sp_nb
          omega
        · have h5 := h4 p (by omega)
          unfold sp_nb at h5 ⊢
          omega
theorem sp_most_rich (g : Nat → Nat) (o fm : Nat) (hf : fm < 16) : (sp_most g o fm 16).1 = sp_rich g o fm 16 := by
  obtain ⟨r1, r2, r3⟩ := sp_rich_nb g o fm 16
  have z : sp_ap fm fm = 0 := sp_ap_0.mpr rfl
  have hr : sp_rich g o fm 16 < 16 := by omega
  rcases sp_most_nb g o fm 16 with ⟨h1, h2, h3⟩ | ⟨h1, h2, h3, h4⟩
  · rw [h1]
    have a1 := h3 _ hr
    have a2 := h3 _ hf
    unfold sp_nb at r2
    have a3 : sp_ap (sp_rich g o fm 16) fm = 0 := by omega
    exact (sp_ap_0.mp a3).symm
  · have a1 := r3 _ h1
    have a2 := h4 _ hr
    unfold sp_nb at a1 a2
    omega
theorem sp_most_lt (g : Nat → Nat) (o fm : Nat) (hf : fm < 16) (k : Nat) (hk : k ≤ 16) : (sp_most g o fm k).1 < 16 := by
  rcases sp_most_nb g o fm k with ⟨h1, -⟩ | ⟨h1, -⟩ <;> omega
/-- an index or none (-4) as an int -/
def jo : Option Nat → Int32
  | none => (-4)
  | some k => nI k
def sp_nr (g : Nat → Nat) (c k : Nat) : Option Nat := if (sp_near g c k).2 = 16 then none else some (sp_near g c k).1
theorem sp_near_ap {g : Nat → Nat} (W : jw g) {c : Nat} (hc : c < 6) : ∀ k, k ≤ 6 → ((sp_near g c k).2 = 16 ∧ (sp_near g c k).1 = c ∧ ∀ p, p < k → p = c) ∨ ((sp_near g c k).2 < 16 ∧ (sp_near g c k).1 < k ∧ (sp_near g c k).2 = sp_ap (g (38 + 5 * (sp_near g c k).1)) (g (38 + 5 * c))) := by
  intro k
  induction k with
  | zero => intro _; exact Or.inl ⟨rfl, rfl, fun p hp => absurd hp (by omega)⟩
  | succ k ih =>
    intro hk
    have h1 := jw_at W (c := k) (by omega)
    have h2 := jw_at W (c := c) hc
    have h3 := sp_ap_lt h1 h2
    unfold sp_near
    split
    · exact Or.inr ⟨h3, by dsimp only; omega, rfl⟩
    · rename_i q
      rcases ih (by omega) with ⟨a1, a2, a3⟩ | ⟨a1, a2, a3⟩
      · refine Or.inl ⟨a1, a2, fun p hp => ?_⟩
        by_cases e : p = k
        · subst e
          rw [a1] at q
          omega
        · exact a3 p (by omega)
      · exact Or.inr ⟨a1, by omega, a3⟩
end
section
/-! REFERENCE: small questions, an hour. -/
set_option maxRecDepth 100000 in
theorem jx_r24 : ∀ t, t < 25 → nI t - nI t / nI 24 * nI 24 = nI (t % 24) := by decide +kernel
theorem jx_or0 (x : Int32) : x ||| nI 0 = x := Int32.or_zero
theorem jx_lt1 {x : Int32} {n : Nat} (hn : n < 2 ^ 31) : x ≤ nI n - nI 1 ↔ x < nI n := by
  have h1 : (nI 1).toInt = 1 := by decide
  have h2 := nI_toInt hn
  have h3 : (nI n - nI 1).toInt = (n : Int) - 1 := by
    rw [Int32.toInt_sub, h2, h1]
    exact Int.bmod_eq_of_le (by omega) (by omega)
  rw [Int32.le_iff_toInt_le, Int32.lt_iff_toInt_lt, h3, h2]
  omega
set_option maxHeartbeats 4000000 in
set_option maxRecDepth 20000 in
theorem tb_isIn {h : jm_M} {x a b : Int32} : jt_Pu 143 [.inl (x), .inl (a), .inl (b)] h (.inl (jm_b (a ≤ x ∧ x ≤ b))) := by
  show jt_T 143 (0, [(0, .inl (x)), (1, .inl (a)), (2, .inl (b))], [], h) _
  refine jt_go jm_m143 0 2 (f' := (2, [(0, .inl (x)), (1, .inl (a)), (2, .inl (b))], [.inl (a), .inl (x)], h)) (P := True) rfl trivial ?_
  refine jt_iclt jm_m143 2 (tgt := 14) (nxt := 5) rfl rfl rfl (fun c2 => ?_) (fun c2 => ?_)
  · refine jt_go jm_m143 8 1 (f' := (15, [(0, .inl (x)), (1, .inl (a)), (2, .inl (b))], [.inl (nI 0)], h)) (P := True) rfl trivial ?_
    refine jt_zret jm_m143 9 rfl (Or.inl rfl) ?_
    exact ⟨jt_lb0 (fun z => absurd (Int32.not_lt.mpr z.1) (fun q => q c2)), rfl⟩
  · refine jt_go jm_m143 3 2 (f' := (7, [(0, .inl (x)), (1, .inl (a)), (2, .inl (b))], [.inl (b), .inl (x)], h)) (P := True) rfl trivial ?_
    refine jt_icgt jm_m143 5 (tgt := 14) (nxt := 10) rfl rfl rfl (fun c7 => ?_) (fun c7 => ?_)
    · refine jt_go jm_m143 8 1 (f' := (15, [(0, .inl (x)), (1, .inl (a)), (2, .inl (b))], [.inl (nI 0)], h)) (P := True) rfl trivial ?_
      refine jt_zret jm_m143 9 rfl (Or.inl rfl) ?_
      exact ⟨jt_lb0 (fun z => absurd (Int32.not_lt.mpr z.2) (fun q => q c7)), rfl⟩
    · refine jt_go jm_m143 6 2 (f' := (15, [(0, .inl (x)), (1, .inl (a)), (2, .inl (b))], [.inl (nI 1)], h)) (P := True) rfl trivial ?_
      refine jt_zret jm_m143 9 rfl (Or.inr rfl) ?_
      exact ⟨jt_lb1 (⟨Int32.not_lt.mp c2, Int32.not_lt.mp c7⟩), rfl⟩
set_option maxHeartbeats 4000000 in
set_option maxRecDepth 20000 in
theorem tb_least {h : jm_M} {x y : Nat} (hx : x < 2 ^ 31) (hy : y < 2 ^ 31) : jt_Pu 144 [.inl (nI x), .inl (nI y)] h (.inl (nI (min x y))) := by
  show jt_T 144 (0, [(0, .inl (nI x)), (1, .inl (nI y))], [], h) _
  refine jt_go jm_m144 0 2 (f' := (2, [(0, .inl (nI x)), (1, .inl (nI y))], [.inl (nI y), .inl (nI x)], h)) (P := True) rfl trivial ?_
  refine jt_nicge jm_m144 2 (a := x) (b := y) (by omega) (by omega) (tgt := 9) (nxt := 5) rfl rfl rfl (fun c2 => ?_) (fun c2 => ?_)
  · refine jt_go jm_m144 5 1 (f' := (10, [(0, .inl (nI x)), (1, .inl (nI y))], [.inl (nI y)], h)) (P := True) rfl trivial ?_
    refine jt_iret jm_m144 6 rfl ?_
    exact ⟨jt_ln (by omega), rfl⟩
  · refine jt_go jm_m144 3 2 (f' := (10, [(0, .inl (nI x)), (1, .inl (nI y))], [.inl (nI x)], h)) (P := True) rfl trivial ?_
    refine jt_iret jm_m144 6 rfl ?_
    exact ⟨jt_ln (by omega), rfl⟩
set_option maxHeartbeats 4000000 in
set_option maxRecDepth 20000 in
theorem tb_apart {h : jm_M} {x y : Nat} (hx : x < 2 ^ 31) (hy : y < 2 ^ 31) : jt_Pu 145 [.inl (nI x), .inl (nI y)] h (.inl (nI (sp_ap x y))) := by
  show jt_T 145 (0, [(0, .inl (nI x)), (1, .inl (nI y))], [], h) _
  refine jt_go jm_m145 0 2 (f' := (2, [(0, .inl (nI x)), (1, .inl (nI y))], [.inl (nI y), .inl (nI x)], h)) (P := True) rfl trivial ?_
  refine jt_nicge jm_m145 2 (a := x) (b := y) (by omega) (by omega) (tgt := 11) (nxt := 5) rfl rfl rfl (fun c2 => ?_) (fun c2 => ?_)
  · refine jt_go jm_m145 7 3 (f' := (14, [(0, .inl (nI x)), (1, .inl (nI y))], [.inl ((nI x) - (nI y))], h)) (P := True) rfl trivial ?_
    refine jt_ti (show ((nI x) - (nI y)) = nI (x - y) from nI_subN (by omega)) ?_
    refine jt_iret jm_m145 10 rfl ?_
    exact ⟨jt_ln (by unfold sp_ap; rw [if_neg (by omega)]), rfl⟩
  · refine jt_go jm_m145 3 3 (f' := (8, [(0, .inl (nI x)), (1, .inl (nI y))], [.inl ((nI y) - (nI x))], h)) (P := True) rfl trivial ?_
    refine jt_ti (show ((nI y) - (nI x)) = nI (y - x) from nI_subN (by omega)) ?_
    refine jt_go jm_m145 6 1 (f' := (14, [(0, .inl (nI x)), (1, .inl (nI y))], [.inl (nI (y - x))], h)) (P := True) rfl trivial ?_
    refine jt_iret jm_m145 10 rfl ?_
    exact ⟨jt_ln (by unfold sp_ap; rw [if_pos (by omega)]), rfl⟩
set_option maxHeartbeats 4000000 in
set_option maxRecDepth 20000 in
theorem tb_sideOf {h : jm_M} {p : Nat} (hp : p < 16) : jt_Pu 154 [.inl (nI p)] h (.inl (nI (sp_sd p))) := by
  show jt_T 154 (0, [(0, .inl (nI p))], [], h) _
  refine jt_go jm_m154 0 2 (f' := (3, [(0, .inl (nI p))], [.inl (nI 8), .inl (nI p)], h)) (P := True) rfl trivial ?_
  refine jt_niclt jm_m154 2 (a := p) (b := 8) (by omega) (by omega) (tgt := 10) (nxt := 6) rfl rfl rfl (fun c3 => ?_) (fun c3 => ?_)
  · refine jt_go jm_m154 5 1 (f' := (11, [(0, .inl (nI p))], [.inl (nI 0)], h)) (P := True) rfl trivial ?_
    refine jt_iret jm_m154 6 rfl ?_
    exact ⟨jt_ln (by unfold sp_sd; rw [if_pos (by omega)]), rfl⟩
  · refine jt_go jm_m154 3 2 (f' := (11, [(0, .inl (nI p))], [.inl (nI 1)], h)) (P := True) rfl trivial ?_
    refine jt_iret jm_m154 6 rfl ?_
    exact ⟨jt_ln (by unfold sp_sd; rw [if_neg (by omega)]), rfl⟩
set_option maxHeartbeats 4000000 in
set_option maxRecDepth 20000 in
theorem tb_ofC {h : jm_M} {c w k : Nat} (e : 36 + 5 * c + w = k) : jt_Pu 147 [.inl (nI c), .inl (nI w)] h (.inl (nI k)) := by
  show jt_T 147 (0, [(0, .inl (nI c)), (1, .inl (nI w))], [], h) _
  refine jt_go jm_m147 0 4 (f' := (5, [(0, .inl (nI c)), (1, .inl (nI w))], [.inl ((nI 5) * (nI c)), .inl (nI 36)], h)) (P := True) rfl trivial ?_
  refine jt_ti (show ((nI 5) * (nI c)) = nI (5 * c) from nI_mul _ _) ?_
  refine jt_go jm_m147 4 1 (f' := (6, [(0, .inl (nI c)), (1, .inl (nI w))], [.inl ((nI 36) + (nI (5 * c)))], h)) (P := True) rfl trivial ?_
  refine jt_ti (show ((nI 36) + (nI (5 * c))) = nI (36 + 5 * c) from nI_add _ _) ?_
  refine jt_go jm_m147 5 2 (f' := (8, [(0, .inl (nI c)), (1, .inl (nI w))], [.inl ((nI (36 + 5 * c)) + (nI w))], h)) (P := True) rfl trivial ?_
  refine jt_ti (show ((nI (36 + 5 * c)) + (nI w)) = nI (36 + 5 * c + w) from nI_add _ _) ?_
  refine jt_iret jm_m147 7 rfl ?_
  exact ⟨jt_ln e, rfl⟩
set_option maxHeartbeats 4000000 in
set_option maxRecDepth 20000 in
theorem tb_ofM {h : jm_M} {c w k : Nat} (e : 66 + 2 * c + w = k) : jt_Pu 148 [.inl (nI c), .inl (nI w)] h (.inl (nI k)) := by
  show jt_T 148 (0, [(0, .inl (nI c)), (1, .inl (nI w))], [], h) _
  refine jt_go jm_m148 0 4 (f' := (5, [(0, .inl (nI c)), (1, .inl (nI w))], [.inl ((nI 2) * (nI c)), .inl (nI 66)], h)) (P := True) rfl trivial ?_
  refine jt_ti (show ((nI 2) * (nI c)) = nI (2 * c) from nI_mul _ _) ?_
  refine jt_go jm_m148 4 1 (f' := (6, [(0, .inl (nI c)), (1, .inl (nI w))], [.inl ((nI 66) + (nI (2 * c)))], h)) (P := True) rfl trivial ?_
  refine jt_ti (show ((nI 66) + (nI (2 * c))) = nI (66 + 2 * c) from nI_add _ _) ?_
  refine jt_go jm_m148 5 2 (f' := (8, [(0, .inl (nI c)), (1, .inl (nI w))], [.inl ((nI (66 + 2 * c)) + (nI w))], h)) (P := True) rfl trivial ?_
  refine jt_ti (show ((nI (66 + 2 * c)) + (nI w)) = nI (66 + 2 * c + w) from nI_add _ _) ?_
  refine jt_iret jm_m148 7 rfl ?_
  exact ⟨jt_ln e, rfl⟩
set_option maxHeartbeats 4000000 in
set_option maxRecDepth 20000 in
theorem tb_place {h : jm_M} {x : Int32} : jt_Pu 151 [.inl (x)] h (.inl (jm_b (nI 0 ≤ x ∧ x ≤ nI 15))) := by
  show jt_T 151 (0, [(0, .inl (x))], [], h) _
  refine jt_go jm_m151 0 3 (f' := (4, [(0, .inl (x))], [.inl (nI 15), .inl (nI 0), .inl (x)], h)) (P := True) rfl trivial ?_
  refine jt_callp (w := .inl (jm_b ((nI 0) ≤ x ∧ x ≤ (nI 15)))) jm_m151 3 (mi' := 143) (as := [.inl (x), .inl (nI 0), .inl (nI 15)]) (rest := []) (nxt := 7) rfl rfl jm_m143 rfl rfl (tb_isIn) ?_
  refine jt_zret jm_m151 4 rfl (jm_b_01 _) ?_
  exact ⟨rfl, rfl⟩
set_option maxHeartbeats 4000000 in
set_option maxRecDepth 20000 in
theorem tb_shelf {h : jm_M} {x : Int32} : jt_Pu 227 [.inl (x)] h (.inl (jm_b (nI 0 ≤ x ∧ x ≤ nI 7))) := by
  show jt_T 227 (0, [(0, .inl (x))], [], h) _
  refine jt_go jm_m227 0 3 (f' := (4, [(0, .inl (x))], [.inl (nI 7), .inl (nI 0), .inl (x)], h)) (P := True) rfl trivial ?_
  refine jt_callp (w := .inl (jm_b ((nI 0) ≤ x ∧ x ≤ (nI 7)))) jm_m227 3 (mi' := 143) (as := [.inl (x), .inl (nI 0), .inl (nI 7)]) (rest := []) (nxt := 7) rfl rfl jm_m143 rfl rfl (tb_isIn) ?_
  refine jt_zret jm_m227 4 rfl (jm_b_01 _) ?_
  exact ⟨rfl, rfl⟩
set_option maxHeartbeats 4000000 in
set_option maxRecDepth 20000 in
theorem tb_isCat {h : jm_M} {g : Nat → Nat} (R : jg_rel h 0 g) (W : jw g) {x : Int32} : jt_Pu 149 [.inr (.inr (4, 0, 0)), .inl (x)] h (.inl (jm_b (nI 0 ≤ x ∧ x < nI (g 0)))) := by
  show jt_T 149 (0, [(0, .inr (.inr (4, 0, 0))), (1, .inl (x))], [], h) _
  refine jt_go jm_m149 0 6 (f' := (8, [(0, .inr (.inr (4, 0, 0))), (1, .inl (x))], [.inl (h (5, 0, 0) (nI 0).toNatClampNeg), .inl (nI 0), .inl (x)], h)) (P := vp_in (nI 0) 78 ∧ True) rfl ⟨(vp_in_nI (by omega) (by decide)), trivial⟩ ?_
  refine jt_ti (show (h (5, 0, 0) (nI 0).toNatClampNeg) = nI (g 0) from jg_get R (k := 0) (nI_clamp (by omega)) (by omega)) ?_
  have bq1 := jw_n W
  refine jt_go jm_m149 6 2 (f' := (10, [(0, .inr (.inr (4, 0, 0))), (1, .inl (x))], [.inl ((nI (g 0)) - (nI 1)), .inl (nI 0), .inl (x)], h)) (P := True) rfl trivial ?_
  refine jt_callp (w := .inl (jm_b (nI 0 ≤ x ∧ x ≤ (nI (g 0)) - (nI 1)))) jm_m149 8 (mi' := 143) (as := [.inl (x), .inl (nI 0), .inl ((nI (g 0)) - (nI 1))]) (rest := []) (nxt := 13) rfl rfl jm_m143 rfl rfl (tb_isIn) ?_
  refine jt_zret jm_m149 9 rfl (jm_b_01 _) ?_
  exact ⟨congrArg some (congrArg Sum.inl (jm_b_congr ⟨fun z => ⟨z.1, (jx_lt1 (by omega)).mp z.2⟩, fun z => ⟨z.1, (jx_lt1 (by omega)).mpr z.2⟩⟩)), rfl⟩
set_option maxHeartbeats 4000000 in
set_option maxRecDepth 20000 in
theorem tb_isMan {h : jm_M} {g : Nat → Nat} (R : jg_rel h 0 g) (W : jw g) {x : Int32} : jt_Pu 150 [.inr (.inr (4, 0, 0)), .inl (x)] h (.inl (jm_b (nI 0 ≤ x ∧ x < nI (g 1)))) := by
  show jt_T 150 (0, [(0, .inr (.inr (4, 0, 0))), (1, .inl (x))], [], h) _
  refine jt_go jm_m150 0 6 (f' := (8, [(0, .inr (.inr (4, 0, 0))), (1, .inl (x))], [.inl (h (5, 0, 0) (nI 1).toNatClampNeg), .inl (nI 0), .inl (x)], h)) (P := vp_in (nI 1) 78 ∧ True) rfl ⟨(vp_in_nI (by omega) (by decide)), trivial⟩ ?_
  refine jt_ti (show (h (5, 0, 0) (nI 1).toNatClampNeg) = nI (g 1) from jg_get R (k := 1) (nI_clamp (by omega)) (by omega)) ?_
  have bq1 := jw_m W
  refine jt_go jm_m150 6 2 (f' := (10, [(0, .inr (.inr (4, 0, 0))), (1, .inl (x))], [.inl ((nI (g 1)) - (nI 1)), .inl (nI 0), .inl (x)], h)) (P := True) rfl trivial ?_
  refine jt_callp (w := .inl (jm_b (nI 0 ≤ x ∧ x ≤ (nI (g 1)) - (nI 1)))) jm_m150 8 (mi' := 143) (as := [.inl (x), .inl (nI 0), .inl ((nI (g 1)) - (nI 1))]) (rest := []) (nxt := 13) rfl rfl jm_m143 rfl rfl (tb_isIn) ?_
  refine jt_zret jm_m150 9 rfl (jm_b_01 _) ?_
  exact ⟨congrArg some (congrArg Sum.inl (jm_b_congr ⟨fun z => ⟨z.1, (jx_lt1 (by omega)).mp z.2⟩, fun z => ⟨z.1, (jx_lt1 (by omega)).mpr z.2⟩⟩)), rfl⟩
set_option maxHeartbeats 4000000 in
set_option maxRecDepth 20000 in
theorem tb_most_l {h : jm_M} {a o fm : Nat} {g : Nat → Nat} (R : jg_rel h a g) (ho : o ≤ 20) (hb : ∀ p, p < 16 → g (o + p) ≤ 9) (hf : fm < 16) : ∀ k, k ≤ 16 → jt_T 155 (8, [(0, .inr (.inr (5, a, 0))), (1, .inl (nI o)), (2, .inl (nI fm)), (3, .inl (nI ((sp_most g o fm k).1))), (4, .inl (nI ((sp_most g o fm k).2))), (5, .inl (nI k))], [], h) (fun u h' => u = some (.inl (nI (sp_most g o fm 16).1)) ∧ h' = h) := jx_up (fun k hk nx => by
  have hs := sp_most_lt g o fm hf k hk
  have hs2 : (sp_most g o fm k).2 ≤ 9 := by
    rcases sp_most_nb g o fm k with ⟨_, h2, _⟩ | ⟨h1, h2, _⟩
    · omega
    · have := hb _ (show (sp_most g o fm k).1 < 16 by omega); omega
  refine jt_go jm_m155 6 2 (f' := (12, [(0, .inr (.inr (5, a, 0))), (1, .inl (nI o)), (2, .inl (nI fm)), (3, .inl (nI ((sp_most g o fm k).1))), (4, .inl (nI ((sp_most g o fm k).2))), (5, .inl (nI k))], [.inl (nI 16), .inl (nI k)], h)) (P := True) rfl trivial ?_
  refine jt_nicge jm_m155 8 (a := k) (b := 16) (by omega) (by omega) (tgt := 72) (nxt := 15) rfl rfl rfl (fun c12 => ?_) (fun c12 => ?_)
  · refine jt_go jm_m155 37 1 (f' := (73, [(0, .inr (.inr (5, a, 0))), (1, .inl (nI o)), (2, .inl (nI fm)), (3, .inl (nI ((sp_most g o fm k).1))), (4, .inl (nI ((sp_most g o fm k).2))), (5, .inl (nI k))], [.inl (nI ((sp_most g o fm k).1))], h)) (P := True) rfl trivial ?_
    refine jt_iret jm_m155 38 rfl ?_
    have e : k = 16 := by omega
    subst e
    exact ⟨rfl, rfl⟩
  · refine jt_go jm_m155 9 4 (f' := (20, [(0, .inr (.inr (5, a, 0))), (1, .inl (nI o)), (2, .inl (nI fm)), (3, .inl (nI ((sp_most g o fm k).1))), (4, .inl (nI ((sp_most g o fm k).2))), (5, .inl (nI k))], [.inl ((nI o) + (nI k)), .inr (.inr (5, a, 0))], h)) (P := True) rfl trivial ?_
    refine jt_ti (show ((nI o) + (nI k)) = nI (o + k) from nI_add _ _) ?_
    refine jt_go jm_m155 13 1 (f' := (21, [(0, .inr (.inr (5, a, 0))), (1, .inl (nI o)), (2, .inl (nI fm)), (3, .inl (nI ((sp_most g o fm k).1))), (4, .inl (nI ((sp_most g o fm k).2))), (5, .inl (nI k))], [.inl (h (5, a, 0) (nI (o + k)).toNatClampNeg)], h)) (P := vp_in (nI (o + k)) 78 ∧ True) rfl ⟨(vp_in_nI (by omega) (by decide)), trivial⟩ ?_
    refine jt_ti (show (h (5, a, 0) (nI (o + k)).toNatClampNeg) = nI (g (o + k)) from by rw [nI_clamp (by omega)]; exact R _ (by omega)) ?_
    have bv := hb k (by omega)
    refine jt_go jm_m155 14 2 (f' := (25, [(6, .inl (nI (g (o + k)))), (0, .inr (.inr (5, a, 0))), (1, .inl (nI o)), (2, .inl (nI fm)), (3, .inl (nI ((sp_most g o fm k).1))), (4, .inl (nI ((sp_most g o fm k).2))), (5, .inl (nI k))], [.inl (nI (g (o + k)))], h)) (P := True) rfl trivial ?_
    refine jt_nifeq jm_m155 16 (by omega) (tgt := 66) (nxt := 28) rfl rfl rfl (fun c25 => ?_) (fun c25 => ?_)
    · refine jt_inc jm_m155 35 (c := k) (L' := [(5, .inl (nI (k + 1))), (6, .inl (nI (g (o + k)))), (0, .inr (.inr (5, a, 0))), (1, .inl (nI o)), (2, .inl (nI fm)), (3, .inl (nI ((sp_most g o fm k).1))), (4, .inl (nI ((sp_most g o fm k).2)))]) rfl rfl rfl rfl ?_
      refine jt_go jm_m155 36 1 (f' := (8, [(5, .inl (nI (k + 1))), (6, .inl (nI (g (o + k)))), (0, .inr (.inr (5, a, 0))), (1, .inl (nI o)), (2, .inl (nI fm)), (3, .inl (nI ((sp_most g o fm k).1))), (4, .inl (nI ((sp_most g o fm k).2)))], [], h)) (P := True) rfl trivial ?_
      refine jt_pick (L' := [(0, .inr (.inr (5, a, 0))), (1, .inl (nI o)), (2, .inl (nI fm)), (3, .inl (nI ((sp_most g o fm k).1))), (4, .inl (nI ((sp_most g o fm k).2))), (5, .inl (nI (k + 1)))]) [2, 3, 4, 5, 6, 0] rfl ?_
      have e : sp_most g o fm (k + 1) = sp_most g o fm k := if_pos (by omega)
      have q := nx c12
      rw [e] at q
      exact q
    · refine jt_go jm_m155 17 2 (f' := (32, [(6, .inl (nI (g (o + k)))), (0, .inr (.inr (5, a, 0))), (1, .inl (nI o)), (2, .inl (nI fm)), (3, .inl (nI ((sp_most g o fm k).1))), (4, .inl (nI ((sp_most g o fm k).2))), (5, .inl (nI k))], [.inl (nI ((sp_most g o fm k).2)), .inl (nI (g (o + k)))], h)) (P := True) rfl trivial ?_
      refine jt_niclt jm_m155 19 (a := g (o + k)) (b := (sp_most g o fm k).2) (by omega) (by omega) (tgt := 66) (nxt := 35) rfl rfl rfl (fun c32 => ?_) (fun c32 => ?_)
      · refine jt_inc jm_m155 35 (c := k) (L' := [(5, .inl (nI (k + 1))), (6, .inl (nI (g (o + k)))), (0, .inr (.inr (5, a, 0))), (1, .inl (nI o)), (2, .inl (nI fm)), (3, .inl (nI ((sp_most g o fm k).1))), (4, .inl (nI ((sp_most g o fm k).2)))]) rfl rfl rfl rfl ?_
        refine jt_go jm_m155 36 1 (f' := (8, [(5, .inl (nI (k + 1))), (6, .inl (nI (g (o + k)))), (0, .inr (.inr (5, a, 0))), (1, .inl (nI o)), (2, .inl (nI fm)), (3, .inl (nI ((sp_most g o fm k).1))), (4, .inl (nI ((sp_most g o fm k).2)))], [], h)) (P := True) rfl trivial ?_
        refine jt_pick (L' := [(0, .inr (.inr (5, a, 0))), (1, .inl (nI o)), (2, .inl (nI fm)), (3, .inl (nI ((sp_most g o fm k).1))), (4, .inl (nI ((sp_most g o fm k).2))), (5, .inl (nI (k + 1)))]) [2, 3, 4, 5, 6, 0] rfl ?_
        have e : sp_most g o fm (k + 1) = sp_most g o fm k := if_pos (by omega)
        have q := nx c12
        rw [e] at q
        exact q
      · refine jt_go jm_m155 20 2 (f' := (39, [(6, .inl (nI (g (o + k)))), (0, .inr (.inr (5, a, 0))), (1, .inl (nI o)), (2, .inl (nI fm)), (3, .inl (nI ((sp_most g o fm k).1))), (4, .inl (nI ((sp_most g o fm k).2))), (5, .inl (nI k))], [.inl (nI ((sp_most g o fm k).2)), .inl (nI (g (o + k)))], h)) (P := True) rfl trivial ?_
        refine jt_nicne jm_m155 22 (a := g (o + k)) (b := (sp_most g o fm k).2) (by omega) (by omega) (tgt := 59) (nxt := 42) rfl rfl rfl (fun c39 => ?_) (fun c39 => ?_)
        · refine jt_go jm_m155 31 4 (f' := (66, [(4, .inl (nI (g (o + k)))), (3, .inl (nI k)), (6, .inl (nI (g (o + k)))), (0, .inr (.inr (5, a, 0))), (1, .inl (nI o)), (2, .inl (nI fm)), (5, .inl (nI k))], [], h)) (P := True) rfl trivial ?_
          refine jt_inc jm_m155 35 (c := k) (L' := [(5, .inl (nI (k + 1))), (4, .inl (nI (g (o + k)))), (3, .inl (nI k)), (6, .inl (nI (g (o + k)))), (0, .inr (.inr (5, a, 0))), (1, .inl (nI o)), (2, .inl (nI fm))]) rfl rfl rfl rfl ?_
          refine jt_go jm_m155 36 1 (f' := (8, [(5, .inl (nI (k + 1))), (4, .inl (nI (g (o + k)))), (3, .inl (nI k)), (6, .inl (nI (g (o + k)))), (0, .inr (.inr (5, a, 0))), (1, .inl (nI o)), (2, .inl (nI fm))], [], h)) (P := True) rfl trivial ?_
          refine jt_pick (L' := [(0, .inr (.inr (5, a, 0))), (1, .inl (nI o)), (2, .inl (nI fm)), (3, .inl (nI k)), (4, .inl (nI (g (o + k)))), (5, .inl (nI (k + 1)))]) [4, 5, 6, 2, 1, 0] rfl ?_
          have e : sp_most g o fm (k + 1) = (k, g (o + k)) := if_neg (by omega)
          have q := nx c12
          rw [e] at q
          exact q
        · refine jt_go jm_m155 23 2 (f' := (45, [(6, .inl (nI (g (o + k)))), (0, .inr (.inr (5, a, 0))), (1, .inl (nI o)), (2, .inl (nI fm)), (3, .inl (nI ((sp_most g o fm k).1))), (4, .inl (nI ((sp_most g o fm k).2))), (5, .inl (nI k))], [.inl (nI fm), .inl (nI k)], h)) (P := True) rfl trivial ?_
          refine jt_callp (w := .inl (nI (sp_ap k fm))) jm_m155 25 (mi' := 145) (as := [.inl (nI k), .inl (nI fm)]) (rest := []) (nxt := 48) rfl rfl jm_m145 rfl rfl (tb_apart (by omega) (by omega)) ?_
          have bq1 : sp_ap k fm < 16 := sp_ap_lt (by omega) (by omega)
          refine jt_go jm_m155 26 2 (f' := (50, [(6, .inl (nI (g (o + k)))), (0, .inr (.inr (5, a, 0))), (1, .inl (nI o)), (2, .inl (nI fm)), (3, .inl (nI ((sp_most g o fm k).1))), (4, .inl (nI ((sp_most g o fm k).2))), (5, .inl (nI k))], [.inl (nI fm), .inl (nI ((sp_most g o fm k).1)), .inl (nI (sp_ap k fm))], h)) (P := True) rfl trivial ?_
          refine jt_callp (w := .inl (nI (sp_ap ((sp_most g o fm k).1) fm))) jm_m155 28 (mi' := 145) (as := [.inl (nI ((sp_most g o fm k).1)), .inl (nI fm)]) (rest := [.inl (nI (sp_ap k fm))]) (nxt := 53) rfl rfl jm_m145 rfl rfl (tb_apart (by omega) (by omega)) ?_
          have bq2 : sp_ap ((sp_most g o fm k).1) fm < 16 := sp_ap_lt (by omega) (by omega)
          refine jt_niclt jm_m155 29 (a := sp_ap k fm) (b := sp_ap ((sp_most g o fm k).1) fm) (by omega) (by omega) (tgt := 59) (nxt := 56) rfl rfl rfl (fun c53 => ?_) (fun c53 => ?_)
          · refine jt_go jm_m155 31 4 (f' := (66, [(4, .inl (nI (g (o + k)))), (3, .inl (nI k)), (6, .inl (nI (g (o + k)))), (0, .inr (.inr (5, a, 0))), (1, .inl (nI o)), (2, .inl (nI fm)), (5, .inl (nI k))], [], h)) (P := True) rfl trivial ?_
            refine jt_inc jm_m155 35 (c := k) (L' := [(5, .inl (nI (k + 1))), (4, .inl (nI (g (o + k)))), (3, .inl (nI k)), (6, .inl (nI (g (o + k)))), (0, .inr (.inr (5, a, 0))), (1, .inl (nI o)), (2, .inl (nI fm))]) rfl rfl rfl rfl ?_
            refine jt_go jm_m155 36 1 (f' := (8, [(5, .inl (nI (k + 1))), (4, .inl (nI (g (o + k)))), (3, .inl (nI k)), (6, .inl (nI (g (o + k)))), (0, .inr (.inr (5, a, 0))), (1, .inl (nI o)), (2, .inl (nI fm))], [], h)) (P := True) rfl trivial ?_
            refine jt_pick (L' := [(0, .inr (.inr (5, a, 0))), (1, .inl (nI o)), (2, .inl (nI fm)), (3, .inl (nI k)), (4, .inl (nI (g (o + k)))), (5, .inl (nI (k + 1)))]) [4, 5, 6, 2, 1, 0] rfl ?_
            have e : sp_most g o fm (k + 1) = (k, g (o + k)) := if_neg (by omega)
            have q := nx c12
            rw [e] at q
            exact q
          · refine jt_go jm_m155 30 1 (f' := (66, [(6, .inl (nI (g (o + k)))), (0, .inr (.inr (5, a, 0))), (1, .inl (nI o)), (2, .inl (nI fm)), (3, .inl (nI ((sp_most g o fm k).1))), (4, .inl (nI ((sp_most g o fm k).2))), (5, .inl (nI k))], [], h)) (P := True) rfl trivial ?_
            refine jt_inc jm_m155 35 (c := k) (L' := [(5, .inl (nI (k + 1))), (6, .inl (nI (g (o + k)))), (0, .inr (.inr (5, a, 0))), (1, .inl (nI o)), (2, .inl (nI fm)), (3, .inl (nI ((sp_most g o fm k).1))), (4, .inl (nI ((sp_most g o fm k).2)))]) rfl rfl rfl rfl ?_
            refine jt_go jm_m155 36 1 (f' := (8, [(5, .inl (nI (k + 1))), (6, .inl (nI (g (o + k)))), (0, .inr (.inr (5, a, 0))), (1, .inl (nI o)), (2, .inl (nI fm)), (3, .inl (nI ((sp_most g o fm k).1))), (4, .inl (nI ((sp_most g o fm k).2)))], [], h)) (P := True) rfl trivial ?_
            refine jt_pick (L' := [(0, .inr (.inr (5, a, 0))), (1, .inl (nI o)), (2, .inl (nI fm)), (3, .inl (nI ((sp_most g o fm k).1))), (4, .inl (nI ((sp_most g o fm k).2))), (5, .inl (nI (k + 1)))]) [2, 3, 4, 5, 6, 0] rfl ?_
            have e : sp_most g o fm (k + 1) = sp_most g o fm k := if_pos (by omega)
            have q := nx c12
            rw [e] at q
            exact q)
set_option maxHeartbeats 4000000 in
set_option maxRecDepth 20000 in
theorem tb_most {h : jm_M} {a o fm : Nat} {g : Nat → Nat} (R : jg_rel h a g) (ho : o ≤ 20) (hb : ∀ p, p < 16 → g (o + p) ≤ 9) (hf : fm < 16) : jt_Pu 155 [.inr (.inr (5, a, 0)), .inl (nI o), .inl (nI fm)] h (.inl (nI (sp_rich g o fm 16))) := by
  rw [← sp_most_rich g o fm hf]
  show jt_T 155 (0, [(0, .inr (.inr (5, a, 0))), (1, .inl (nI o)), (2, .inl (nI fm))], [], h) _
  refine jt_go jm_m155 0 6 (f' := (8, [(5, .inl (nI 0)), (4, .inl (nI 0)), (3, .inl (nI fm)), (0, .inr (.inr (5, a, 0))), (1, .inl (nI o)), (2, .inl (nI fm))], [], h)) (P := True) rfl trivial ?_
  refine jt_pick (L' := [(0, .inr (.inr (5, a, 0))), (1, .inl (nI o)), (2, .inl (nI fm)), (3, .inl (nI fm)), (4, .inl (nI 0)), (5, .inl (nI 0))]) [3, 4, 5, 2, 1, 0] rfl ?_
  exact tb_most_l R ho hb hf 0 (Nat.zero_le _)
set_option maxHeartbeats 4000000 in
set_option maxRecDepth 20000 in
theorem tb_near_l {h : jm_M} {a : Nat} {g : Nat → Nat} (R : jg_rel h a g) (W : jw g) {c : Nat} (hc : c < g 0) : ∀ k, k ≤ g 0 → jt_T 156 (14, [(0, .inr (.inr (5, a, 0))), (1, .inl (nI c)), (2, .inl (nI (g (38 + 5 * c)))), (3, .inl (jo (sp_nr g c k))), (4, .inl (nI k))], [], h) (fun u h' => u = some (.inl (nI (g (38 + 5 * (sp_near g c (g 0)).1)))) ∧ h' = h) := jx_up (P := fun k => jt_T 156 (14, [(0, .inr (.inr (5, a, 0))), (1, .inl (nI c)), (2, .inl (nI (g (38 + 5 * c)))), (3, .inl (jo (sp_nr g c k))), (4, .inl (nI k))], [], h) (fun u h' => u = some (.inl (nI (g (38 + 5 * (sp_near g c (g 0)).1)))) ∧ h' = h)) (fun k hk nx   => by
  have bn := jw_n W
  have bm := jw_m W
  have bt := jw_t W
  have ba := jw_at W (c := c) (by omega)
  rcases sp_near_ap W (c := c) (by omega) k (by omega) with ⟨h1, hA, h2⟩ | ⟨h1, h2, h3⟩
  · have en : sp_nr g c k = none := if_pos h1
    rw [en]
    show jt_T 156 (14, [(0, .inr (.inr (5, a, 0))), (1, .inl (nI c)), (2, .inl (nI (g (38 + 5 * c)))), (3, .inl ((-4))), (4, .inl (nI k))], [], h) _
    refine jt_go jm_m156 10 4 (f' := (19, [(0, .inr (.inr (5, a, 0))), (1, .inl (nI c)), (2, .inl (nI (g (38 + 5 * c)))), (3, .inl ((-4))), (4, .inl (nI k))], [.inl (h (5, a, 0) (nI 0).toNatClampNeg), .inl (nI k)], h)) (P := vp_in (nI 0) 78 ∧ True) rfl ⟨(vp_in_nI (by omega) (by decide)), trivial⟩ ?_
    refine jt_ti (show (h (5, a, 0) (nI 0).toNatClampNeg) = nI (g 0) from jg_get R (k := 0) (nI_clamp (by omega)) (by omega)) ?_
    have bq1 := jw_n W
    refine jt_nicge jm_m156 14 (a := k) (b := g 0) (by omega) (by omega) (tgt := 67) (nxt := 22) rfl rfl rfl (fun c19 => ?_) (fun c19 => ?_)
    · refine jt_go jm_m156 39 1 (f' := (68, [(0, .inr (.inr (5, a, 0))), (1, .inl (nI c)), (2, .inl (nI (g (38 + 5 * c)))), (3, .inl ((-4))), (4, .inl (nI k))], [.inl ((-4))], h)) (P := True) rfl trivial ?_
      refine jt_ifge jm_m156 40 (tgt := 75) (nxt := 71) rfl rfl rfl (fun c68 => ?_) (fun c68 => ?_)
      · exact absurd c68 (by decide)
      · refine jt_go jm_m156 41 2 (f' := (82, [(0, .inr (.inr (5, a, 0))), (1, .inl (nI c)), (2, .inl (nI (g (38 + 5 * c)))), (3, .inl ((-4))), (4, .inl (nI k))], [.inl (nI (g (38 + 5 * c)))], h)) (P := True) rfl trivial ?_
        refine jt_iret jm_m156 48 rfl ?_
        have e : k = g 0 := by omega
        subst e
        exact ⟨jt_ln (by rw [hA]), rfl⟩
    · refine jt_go jm_m156 15 2 (f' := (25, [(0, .inr (.inr (5, a, 0))), (1, .inl (nI c)), (2, .inl (nI (g (38 + 5 * c)))), (3, .inl ((-4))), (4, .inl (nI k))], [.inl (nI c), .inl (nI k)], h)) (P := True) rfl trivial ?_
      refine jt_niceq jm_m156 17 (a := k) (b := c) (by omega) (by omega) (tgt := 61) (nxt := 28) rfl rfl rfl (fun c25 => ?_) (fun c25 => ?_)
      · refine jt_inc jm_m156 37 (c := k) (L' := [(4, .inl (nI (k + 1))), (0, .inr (.inr (5, a, 0))), (1, .inl (nI c)), (2, .inl (nI (g (38 + 5 * c)))), (3, .inl ((-4)))]) rfl rfl rfl rfl ?_
        refine jt_go jm_m156 38 1 (f' := (14, [(4, .inl (nI (k + 1))), (0, .inr (.inr (5, a, 0))), (1, .inl (nI c)), (2, .inl (nI (g (38 + 5 * c)))), (3, .inl ((-4)))], [], h)) (P := True) rfl trivial ?_
        refine jt_pick (L' := [(0, .inr (.inr (5, a, 0))), (1, .inl (nI c)), (2, .inl (nI (g (38 + 5 * c)))), (3, .inl ((-4))), (4, .inl (nI (k + 1)))]) [1, 2, 3, 4, 0] rfl ?_
        have e : sp_near g c (k + 1) = sp_near g c k := if_neg (by omega)
        have e2 : sp_nr g c (k + 1) = sp_nr g c k := by unfold sp_nr; rw [e]
        have q := nx c19
        rw [e2, en] at q
        exact q
      · refine jt_go jm_m156 18 1 (f' := (29, [(0, .inr (.inr (5, a, 0))), (1, .inl (nI c)), (2, .inl (nI (g (38 + 5 * c)))), (3, .inl ((-4))), (4, .inl (nI k))], [.inl ((-4))], h)) (P := True) rfl trivial ?_
        refine jt_iflt jm_m156 19 (tgt := 58) (nxt := 32) rfl rfl rfl (fun c29 => ?_) (fun c29 => ?_)
        · refine jt_go jm_m156 35 2 (f' := (61, [(3, .inl (nI k)), (0, .inr (.inr (5, a, 0))), (1, .inl (nI c)), (2, .inl (nI (g (38 + 5 * c)))), (4, .inl (nI k))], [], h)) (P := True) rfl trivial ?_
          refine jt_inc jm_m156 37 (c := k) (L' := [(4, .inl (nI (k + 1))), (3, .inl (nI k)), (0, .inr (.inr (5, a, 0))), (1, .inl (nI c)), (2, .inl (nI (g (38 + 5 * c))))]) rfl rfl rfl rfl ?_
          refine jt_go jm_m156 38 1 (f' := (14, [(4, .inl (nI (k + 1))), (3, .inl (nI k)), (0, .inr (.inr (5, a, 0))), (1, .inl (nI c)), (2, .inl (nI (g (38 + 5 * c))))], [], h)) (P := True) rfl trivial ?_
          refine jt_pick (L' := [(0, .inr (.inr (5, a, 0))), (1, .inl (nI c)), (2, .inl (nI (g (38 + 5 * c)))), (3, .inl (nI k)), (4, .inl (nI (k + 1)))]) [2, 3, 4, 1, 0] rfl ?_
          have e : sp_near g c (k + 1) = (k, sp_ap (g (38 + 5 * k)) (g (38 + 5 * c))) := if_pos (by have := sp_ap_lt (jw_at W (c := k) (by omega)) (jw_at W (c := c) (by omega)); omega)
          have e2 : sp_nr g c (k + 1) = some k := by unfold sp_nr; rw [e]; exact if_neg (by dsimp only; have := sp_ap_lt (jw_at W (c := k) (by omega)) (jw_at W (c := c) (by omega)); omega)
          have q := nx c19
          rw [e2] at q
          exact q
        · exact absurd c29 (by decide)
  · have en : sp_nr g c k = some (sp_near g c k).1 := if_neg (by omega)
    rw [en]
    show jt_T 156 (14, [(0, .inr (.inr (5, a, 0))), (1, .inl (nI c)), (2, .inl (nI (g (38 + 5 * c)))), (3, .inl (nI ((sp_near g c k).1))), (4, .inl (nI k))], [], h) _
    refine jt_go jm_m156 10 4 (f' := (19, [(0, .inr (.inr (5, a, 0))), (1, .inl (nI c)), (2, .inl (nI (g (38 + 5 * c)))), (3, .inl (nI ((sp_near g c k).1))), (4, .inl (nI k))], [.inl (h (5, a, 0) (nI 0).toNatClampNeg), .inl (nI k)], h)) (P := vp_in (nI 0) 78 ∧ True) rfl ⟨(vp_in_nI (by omega) (by decide)), trivial⟩ ?_
    refine jt_ti (show (h (5, a, 0) (nI 0).toNatClampNeg) = nI (g 0) from jg_get R (k := 0) (nI_clamp (by omega)) (by omega)) ?_
    have bq1 := jw_n W
    refine jt_nicge jm_m156 14 (a := k) (b := g 0) (by omega) (by omega) (tgt := 67) (nxt := 22) rfl rfl rfl (fun c19 => ?_) (fun c19 => ?_)
    · refine jt_go jm_m156 39 1 (f' := (68, [(0, .inr (.inr (5, a, 0))), (1, .inl (nI c)), (2, .inl (nI (g (38 + 5 * c)))), (3, .inl (nI ((sp_near g c k).1))), (4, .inl (nI k))], [.inl (nI ((sp_near g c k).1))], h)) (P := True) rfl trivial ?_
      refine jt_nifge jm_m156 40 (by omega) rfl rfl rfl (fun _ => ?_)
      refine jt_go jm_m156 43 3 (f' := (78, [(0, .inr (.inr (5, a, 0))), (1, .inl (nI c)), (2, .inl (nI (g (38 + 5 * c)))), (3, .inl (nI ((sp_near g c k).1))), (4, .inl (nI k))], [.inl (nI 2), .inl (nI ((sp_near g c k).1)), .inr (.inr (5, a, 0))], h)) (P := True) rfl trivial ?_
      refine jt_callp (w := .inl (nI (38 + 5 * ((sp_near g c k).1)))) jm_m156 46 (mi' := 147) (as := [.inl (nI ((sp_near g c k).1)), .inl (nI 2)]) (rest := [.inr (.inr (5, a, 0))]) (nxt := 81) rfl rfl jm_m147 rfl rfl (tb_ofC (k := 38 + 5 * ((sp_near g c k).1)) (by omega)) ?_
      refine jt_go jm_m156 47 1 (f' := (82, [(0, .inr (.inr (5, a, 0))), (1, .inl (nI c)), (2, .inl (nI (g (38 + 5 * c)))), (3, .inl (nI ((sp_near g c k).1))), (4, .inl (nI k))], [.inl (h (5, a, 0) (nI (38 + 5 * ((sp_near g c k).1))).toNatClampNeg)], h)) (P := vp_in (nI (38 + 5 * ((sp_near g c k).1))) 78 ∧ True) rfl ⟨(vp_in_nI (by omega) (by decide)), trivial⟩ ?_
      refine jt_ti (show (h (5, a, 0) (nI (38 + 5 * ((sp_near g c k).1))).toNatClampNeg) = nI (g (38 + 5 * ((sp_near g c k).1))) from jg_get R (k := 38 + 5 * ((sp_near g c k).1)) (nI_clamp (by omega)) (by omega)) ?_
      have bq2 := jw_at W (c := ((sp_near g c k).1)) (by omega)
      refine jt_iret jm_m156 48 rfl ?_
      have e : k = g 0 := by omega
      subst e
      exact ⟨rfl, rfl⟩
    · refine jt_go jm_m156 15 2 (f' := (25, [(0, .inr (.inr (5, a, 0))), (1, .inl (nI c)), (2, .inl (nI (g (38 + 5 * c)))), (3, .inl (nI ((sp_near g c k).1))), (4, .inl (nI k))], [.inl (nI c), .inl (nI k)], h)) (P := True) rfl trivial ?_
      refine jt_niceq jm_m156 17 (a := k) (b := c) (by omega) (by omega) (tgt := 61) (nxt := 28) rfl rfl rfl (fun c25 => ?_) (fun c25 => ?_)
      · refine jt_inc jm_m156 37 (c := k) (L' := [(4, .inl (nI (k + 1))), (0, .inr (.inr (5, a, 0))), (1, .inl (nI c)), (2, .inl (nI (g (38 + 5 * c)))), (3, .inl (nI ((sp_near g c k).1)))]) rfl rfl rfl rfl ?_
        refine jt_go jm_m156 38 1 (f' := (14, [(4, .inl (nI (k + 1))), (0, .inr (.inr (5, a, 0))), (1, .inl (nI c)), (2, .inl (nI (g (38 + 5 * c)))), (3, .inl (nI ((sp_near g c k).1)))], [], h)) (P := True) rfl trivial ?_
        refine jt_pick (L' := [(0, .inr (.inr (5, a, 0))), (1, .inl (nI c)), (2, .inl (nI (g (38 + 5 * c)))), (3, .inl (nI ((sp_near g c k).1))), (4, .inl (nI (k + 1)))]) [1, 2, 3, 4, 0] rfl ?_
        have e : sp_near g c (k + 1) = sp_near g c k := if_neg (by omega)
        have e2 : sp_nr g c (k + 1) = sp_nr g c k := by unfold sp_nr; rw [e]
        have q := nx c19
        rw [e2, en] at q
        exact q
      · refine jt_go jm_m156 18 1 (f' := (29, [(0, .inr (.inr (5, a, 0))), (1, .inl (nI c)), (2, .inl (nI (g (38 + 5 * c)))), (3, .inl (nI ((sp_near g c k).1))), (4, .inl (nI k))], [.inl (nI ((sp_near g c k).1))], h)) (P := True) rfl trivial ?_
        refine jt_niflt jm_m156 19 (by omega) rfl rfl rfl (fun _ => ?_)
        refine jt_go jm_m156 20 3 (f' := (36, [(0, .inr (.inr (5, a, 0))), (1, .inl (nI c)), (2, .inl (nI (g (38 + 5 * c)))), (3, .inl (nI ((sp_near g c k).1))), (4, .inl (nI k))], [.inl (nI 2), .inl (nI k), .inr (.inr (5, a, 0))], h)) (P := True) rfl trivial ?_
        refine jt_callp (w := .inl (nI (38 + 5 * k))) jm_m156 23 (mi' := 147) (as := [.inl (nI k), .inl (nI 2)]) (rest := [.inr (.inr (5, a, 0))]) (nxt := 39) rfl rfl jm_m147 rfl rfl (tb_ofC (k := 38 + 5 * k) (by omega)) ?_
        refine jt_go jm_m156 24 1 (f' := (40, [(0, .inr (.inr (5, a, 0))), (1, .inl (nI c)), (2, .inl (nI (g (38 + 5 * c)))), (3, .inl (nI ((sp_near g c k).1))), (4, .inl (nI k))], [.inl (h (5, a, 0) (nI (38 + 5 * k)).toNatClampNeg)], h)) (P := vp_in (nI (38 + 5 * k)) 78 ∧ True) rfl ⟨(vp_in_nI (by omega) (by decide)), trivial⟩ ?_
        refine jt_ti (show (h (5, a, 0) (nI (38 + 5 * k)).toNatClampNeg) = nI (g (38 + 5 * k)) from jg_get R (k := 38 + 5 * k) (nI_clamp (by omega)) (by omega)) ?_
        have bq3 := jw_at W (c := k) (by omega)
        refine jt_go jm_m156 25 1 (f' := (41, [(0, .inr (.inr (5, a, 0))), (1, .inl (nI c)), (2, .inl (nI (g (38 + 5 * c)))), (3, .inl (nI ((sp_near g c k).1))), (4, .inl (nI k))], [.inl (nI (g (38 + 5 * c))), .inl (nI (g (38 + 5 * k)))], h)) (P := True) rfl trivial ?_
        refine jt_callp (w := .inl (nI (sp_ap (g (38 + 5 * k)) (g (38 + 5 * c))))) jm_m156 26 (mi' := 145) (as := [.inl (nI (g (38 + 5 * k))), .inl (nI (g (38 + 5 * c)))]) (rest := []) (nxt := 44) rfl rfl jm_m145 rfl rfl (tb_apart (by omega) (by omega)) ?_
        have bq4 : sp_ap (g (38 + 5 * k)) (g (38 + 5 * c)) < 16 := sp_ap_lt (by omega) (by omega)
        refine jt_go jm_m156 27 3 (f' := (47, [(0, .inr (.inr (5, a, 0))), (1, .inl (nI c)), (2, .inl (nI (g (38 + 5 * c)))), (3, .inl (nI ((sp_near g c k).1))), (4, .inl (nI k))], [.inl (nI 2), .inl (nI ((sp_near g c k).1)), .inr (.inr (5, a, 0)), .inl (nI (sp_ap (g (38 + 5 * k)) (g (38 + 5 * c))))], h)) (P := True) rfl trivial ?_
        refine jt_callp (w := .inl (nI (38 + 5 * ((sp_near g c k).1)))) jm_m156 30 (mi' := 147) (as := [.inl (nI ((sp_near g c k).1)), .inl (nI 2)]) (rest := [.inr (.inr (5, a, 0)), .inl (nI (sp_ap (g (38 + 5 * k)) (g (38 + 5 * c))))]) (nxt := 50) rfl rfl jm_m147 rfl rfl (tb_ofC (k := 38 + 5 * ((sp_near g c k).1)) (by omega)) ?_
        refine jt_go jm_m156 31 1 (f' := (51, [(0, .inr (.inr (5, a, 0))), (1, .inl (nI c)), (2, .inl (nI (g (38 + 5 * c)))), (3, .inl (nI ((sp_near g c k).1))), (4, .inl (nI k))], [.inl (h (5, a, 0) (nI (38 + 5 * ((sp_near g c k).1))).toNatClampNeg), .inl (nI (sp_ap (g (38 + 5 * k)) (g (38 + 5 * c))))], h)) (P := vp_in (nI (38 + 5 * ((sp_near g c k).1))) 78 ∧ True) rfl ⟨(vp_in_nI (by omega) (by decide)), trivial⟩ ?_
        refine jt_ti (show (h (5, a, 0) (nI (38 + 5 * ((sp_near g c k).1))).toNatClampNeg) = nI (g (38 + 5 * ((sp_near g c k).1))) from jg_get R (k := 38 + 5 * ((sp_near g c k).1)) (nI_clamp (by omega)) (by omega)) ?_
        have bq5 := jw_at W (c := ((sp_near g c k).1)) (by omega)
        refine jt_go jm_m156 32 1 (f' := (52, [(0, .inr (.inr (5, a, 0))), (1, .inl (nI c)), (2, .inl (nI (g (38 + 5 * c)))), (3, .inl (nI ((sp_near g c k).1))), (4, .inl (nI k))], [.inl (nI (g (38 + 5 * c))), .inl (nI (g (38 + 5 * ((sp_near g c k).1)))), .inl (nI (sp_ap (g (38 + 5 * k)) (g (38 + 5 * c))))], h)) (P := True) rfl trivial ?_
        refine jt_callp (w := .inl (nI (sp_ap (g (38 + 5 * ((sp_near g c k).1))) (g (38 + 5 * c))))) jm_m156 33 (mi' := 145) (as := [.inl (nI (g (38 + 5 * ((sp_near g c k).1)))), .inl (nI (g (38 + 5 * c)))]) (rest := [.inl (nI (sp_ap (g (38 + 5 * k)) (g (38 + 5 * c))))]) (nxt := 55) rfl rfl jm_m145 rfl rfl (tb_apart (by omega) (by omega)) ?_
        have bq6 : sp_ap (g (38 + 5 * ((sp_near g c k).1))) (g (38 + 5 * c)) < 16 := sp_ap_lt (by omega) (by omega)
        refine jt_nicge jm_m156 34 (a := sp_ap (g (38 + 5 * k)) (g (38 + 5 * c))) (b := sp_ap (g (38 + 5 * ((sp_near g c k).1))) (g (38 + 5 * c))) (by omega) (by omega) (tgt := 61) (nxt := 58) rfl rfl rfl (fun c55 => ?_) (fun c55 => ?_)
        · refine jt_inc jm_m156 37 (c := k) (L' := [(4, .inl (nI (k + 1))), (0, .inr (.inr (5, a, 0))), (1, .inl (nI c)), (2, .inl (nI (g (38 + 5 * c)))), (3, .inl (nI ((sp_near g c k).1)))]) rfl rfl rfl rfl ?_
          refine jt_go jm_m156 38 1 (f' := (14, [(4, .inl (nI (k + 1))), (0, .inr (.inr (5, a, 0))), (1, .inl (nI c)), (2, .inl (nI (g (38 + 5 * c)))), (3, .inl (nI ((sp_near g c k).1)))], [], h)) (P := True) rfl trivial ?_
          refine jt_pick (L' := [(0, .inr (.inr (5, a, 0))), (1, .inl (nI c)), (2, .inl (nI (g (38 + 5 * c)))), (3, .inl (nI ((sp_near g c k).1))), (4, .inl (nI (k + 1)))]) [1, 2, 3, 4, 0] rfl ?_
          have e : sp_near g c (k + 1) = sp_near g c k := if_neg (by omega)
          have e2 : sp_nr g c (k + 1) = sp_nr g c k := by unfold sp_nr; rw [e]
          have q := nx c19
          rw [e2, en] at q
          exact q
        · refine jt_go jm_m156 35 2 (f' := (61, [(3, .inl (nI k)), (0, .inr (.inr (5, a, 0))), (1, .inl (nI c)), (2, .inl (nI (g (38 + 5 * c)))), (4, .inl (nI k))], [], h)) (P := True) rfl trivial ?_
          refine jt_inc jm_m156 37 (c := k) (L' := [(4, .inl (nI (k + 1))), (3, .inl (nI k)), (0, .inr (.inr (5, a, 0))), (1, .inl (nI c)), (2, .inl (nI (g (38 + 5 * c))))]) rfl rfl rfl rfl ?_
          refine jt_go jm_m156 38 1 (f' := (14, [(4, .inl (nI (k + 1))), (3, .inl (nI k)), (0, .inr (.inr (5, a, 0))), (1, .inl (nI c)), (2, .inl (nI (g (38 + 5 * c))))], [], h)) (P := True) rfl trivial ?_
          refine jt_pick (L' := [(0, .inr (.inr (5, a, 0))), (1, .inl (nI c)), (2, .inl (nI (g (38 + 5 * c)))), (3, .inl (nI k)), (4, .inl (nI (k + 1)))]) [2, 3, 4, 1, 0] rfl ?_
          have e : sp_near g c (k + 1) = (k, sp_ap (g (38 + 5 * k)) (g (38 + 5 * c))) := if_pos (by have := sp_ap_lt (jw_at W (c := k) (by omega)) (jw_at W (c := c) (by omega)); omega)
          have e2 : sp_nr g c (k + 1) = some k := by unfold sp_nr; rw [e]; exact if_neg (by dsimp only; have := sp_ap_lt (jw_at W (c := k) (by omega)) (jw_at W (c := c) (by omega)); omega)
          have q := nx c19
          rw [e2] at q
          exact q)
set_option maxHeartbeats 4000000 in
set_option maxRecDepth 20000 in
theorem tb_near {h : jm_M} {a : Nat} {g : Nat → Nat} (R : jg_rel h a g) (W : jw g) {c : Nat} (hc : c < g 0) : jt_Pu 156 [.inr (.inr (5, a, 0)), .inl (nI c)] h (.inl (nI (g (38 + 5 * (sp_near g c (g 0)).1)))) := by
  have bn := jw_n W
  have bm := jw_m W
  have bt := jw_t W
  show jt_T 156 (0, [(0, .inr (.inr (5, a, 0))), (1, .inl (nI c))], [], h) _
  refine jt_go jm_m156 0 3 (f' := (3, [(0, .inr (.inr (5, a, 0))), (1, .inl (nI c))], [.inl (nI 2), .inl (nI c), .inr (.inr (5, a, 0))], h)) (P := True) rfl trivial ?_
  refine jt_callp (w := .inl (nI (38 + 5 * c))) jm_m156 3 (mi' := 147) (as := [.inl (nI c), .inl (nI 2)]) (rest := [.inr (.inr (5, a, 0))]) (nxt := 6) rfl rfl jm_m147 rfl rfl (tb_ofC (k := 38 + 5 * c) (by omega)) ?_
  refine jt_go jm_m156 4 1 (f' := (7, [(0, .inr (.inr (5, a, 0))), (1, .inl (nI c))], [.inl (h (5, a, 0) (nI (38 + 5 * c)).toNatClampNeg)], h)) (P := vp_in (nI (38 + 5 * c)) 78 ∧ True) rfl ⟨(vp_in_nI (by omega) (by decide)), trivial⟩ ?_
  refine jt_ti (show (h (5, a, 0) (nI (38 + 5 * c)).toNatClampNeg) = nI (g (38 + 5 * c)) from jg_get R (k := 38 + 5 * c) (nI_clamp (by omega)) (by omega)) ?_
  have bq1 := jw_at W (c := c) (by omega)
  refine jt_go jm_m156 5 5 (f' := (14, [(4, .inl (nI 0)), (3, .inl ((-4))), (2, .inl (nI (g (38 + 5 * c)))), (0, .inr (.inr (5, a, 0))), (1, .inl (nI c))], [], h)) (P := True) rfl trivial ?_
  refine jt_pick (L' := [(0, .inr (.inr (5, a, 0))), (1, .inl (nI c)), (2, .inl (nI (g (38 + 5 * c)))), (3, .inl ((-4))), (4, .inl (nI 0))]) [3, 4, 2, 1, 0] rfl ?_
  exact tb_near_l R W hc 0 (Nat.zero_le _)
end
section
/-! REFERENCE: an hour. -/
set_option maxHeartbeats 4000000 in
set_option maxRecDepth 20000 in
theorem tb_goal {h : jm_M} {a : Nat} {g : Nat → Nat} (R : jg_rel h a g) (W : jw g) {c : Nat} (hc : c < g 0) : jt_Pu 157 [.inr (.inr (5, a, 0)), .inl (nI c)] h (.inl (nI (sp_goal g c))) := by
  have bn := jw_n W
  have bm := jw_m W
  have bt := jw_t W
  have ba := jw_at W (c := c) (by omega)
  show jt_T 157 (0, [(0, .inr (.inr (5, a, 0))), (1, .inl (nI c))], [], h) _
  refine jt_go jm_m157 0 3 (f' := (3, [(0, .inr (.inr (5, a, 0))), (1, .inl (nI c))], [.inl (nI 2), .inl (nI c), .inr (.inr (5, a, 0))], h)) (P := True) rfl trivial ?_
  refine jt_callp (w := .inl (nI (38 + 5 * c))) jm_m157 3 (mi' := 147) (as := [.inl (nI c), .inl (nI 2)]) (rest := [.inr (.inr (5, a, 0))]) (nxt := 6) rfl rfl jm_m147 rfl rfl (tb_ofC (k := 38 + 5 * c) (by omega)) ?_
  refine jt_go jm_m157 4 1 (f' := (7, [(0, .inr (.inr (5, a, 0))), (1, .inl (nI c))], [.inl (h (5, a, 0) (nI (38 + 5 * c)).toNatClampNeg)], h)) (P := vp_in (nI (38 + 5 * c)) 78 ∧ True) rfl ⟨(vp_in_nI (by omega) (by decide)), trivial⟩ ?_
  refine jt_ti (show (h (5, a, 0) (nI (38 + 5 * c)).toNatClampNeg) = nI (g (38 + 5 * c)) from jg_get R (k := 38 + 5 * c) (nI_clamp (by omega)) (by omega)) ?_
  have bq1 := jw_at W (c := c) (by omega)
  refine jt_go jm_m157 5 4 (f' := (11, [(2, .inl (nI (g (38 + 5 * c)))), (0, .inr (.inr (5, a, 0))), (1, .inl (nI c))], [.inl (h (5, a, 0) (nI 2).toNatClampNeg)], h)) (P := vp_in (nI 2) 78 ∧ True) rfl ⟨(vp_in_nI (by omega) (by decide)), trivial⟩ ?_
  refine jt_ti (show (h (5, a, 0) (nI 2).toNatClampNeg) = nI (g 2) from jg_get R (k := 2) (nI_clamp (by omega)) (by omega)) ?_
  have bq2 := jw_t W
  refine jt_go jm_m157 9 4 (f' := (15, [(3, .inl (nI (g 2))), (2, .inl (nI (g (38 + 5 * c)))), (0, .inr (.inr (5, a, 0))), (1, .inl (nI c))], [.inl (nI 0), .inl (nI c), .inr (.inr (5, a, 0))], h)) (P := True) rfl trivial ?_
  refine jt_callp (w := .inl (nI (36 + 5 * c))) jm_m157 13 (mi' := 147) (as := [.inl (nI c), .inl (nI 0)]) (rest := [.inr (.inr (5, a, 0))]) (nxt := 18) rfl rfl jm_m147 rfl rfl (tb_ofC (k := 36 + 5 * c) (by omega)) ?_
  refine jt_go jm_m157 14 1 (f' := (19, [(3, .inl (nI (g 2))), (2, .inl (nI (g (38 + 5 * c)))), (0, .inr (.inr (5, a, 0))), (1, .inl (nI c))], [.inl (h (5, a, 0) (nI (36 + 5 * c)).toNatClampNeg)], h)) (P := vp_in (nI (36 + 5 * c)) 78 ∧ True) rfl ⟨(vp_in_nI (by omega) (by decide)), trivial⟩ ?_
  refine jt_ti (show (h (5, a, 0) (nI (36 + 5 * c)).toNatClampNeg) = nI (g (36 + 5 * c)) from jg_get R (k := 36 + 5 * c) (nI_clamp (by omega)) (by omega)) ?_
  have bq3 := jw_kind W (c := c) (by omega)
  refine jt_ts jm_m157 15 rfl ⟨fun d0 => ?_, fun d0 => ⟨fun d1 => ?_, fun d1 => ⟨fun d2 => ?_, fun d2 => ⟨fun d3 => ?_, fun d3 => ⟨fun d4 => ?_, fun d4 => ⟨fun d5 => ?_, fun d5 => ?_⟩⟩⟩⟩⟩⟩
  · have d0 : g (36 + 5 * c) = 1 := nI_inj (by omega) (by decide) d0
    show jt_T 157 (56, [(3, .inl (nI (g 2))), (2, .inl (nI (g (38 + 5 * c)))), (0, .inr (.inr (5, a, 0))), (1, .inl (nI c))], [], h) _
    refine jt_go jm_m157 16 3 (f' := (60, [(3, .inl (nI (g 2))), (2, .inl (nI (g (38 + 5 * c)))), (0, .inr (.inr (5, a, 0))), (1, .inl (nI c))], [.inl (nI (g (38 + 5 * c))), .inl (nI 20), .inr (.inr (5, a, 0))], h)) (P := True) rfl trivial ?_
    refine jt_callp (w := .inl (nI (sp_rich g 20 (g (38 + 5 * c)) 16))) jm_m157 19 (mi' := 155) (as := [.inr (.inr (5, a, 0)), .inl (nI 20), .inl (nI (g (38 + 5 * c)))]) (rest := []) (nxt := 63) rfl rfl jm_m155 rfl rfl (tb_most R (by decide) (fun p hp => jw_mice W hp) (by omega)) ?_
    refine jt_iret jm_m157 20 rfl ?_
    exact ⟨jt_ln (by unfold sp_goal; rw [d0]; rfl), rfl⟩
  · have d1 : g (36 + 5 * c) = 2 := nI_inj (by omega) (by decide) d1
    show jt_T 157 (64, [(3, .inl (nI (g 2))), (2, .inl (nI (g (38 + 5 * c)))), (0, .inr (.inr (5, a, 0))), (1, .inl (nI c))], [], h) _
    refine jt_go jm_m157 21 2 (f' := (66, [(3, .inl (nI (g 2))), (2, .inl (nI (g (38 + 5 * c)))), (0, .inr (.inr (5, a, 0))), (1, .inl (nI c))], [.inl (nI c), .inr (.inr (5, a, 0))], h)) (P := True) rfl trivial ?_
    refine jt_callp (w := .inl (nI (g (38 + 5 * (sp_near g c (g 0)).1)))) jm_m157 23 (mi' := 156) (as := [.inr (.inr (5, a, 0)), .inl (nI c)]) (rest := []) (nxt := 69) rfl rfl jm_m156 rfl rfl (tb_near R W hc) ?_
    refine jt_iret jm_m157 24 rfl ?_
    exact ⟨jt_ln (by unfold sp_goal; rw [d1]; rfl), rfl⟩
  · have d2 : g (36 + 5 * c) = 3 := nI_inj (by omega) (by decide) d2
    show jt_T 157 (70, [(3, .inl (nI (g 2))), (2, .inl (nI (g (38 + 5 * c)))), (0, .inr (.inr (5, a, 0))), (1, .inl (nI c))], [], h) _
    refine jt_go jm_m157 25 1 (f' := (71, [(3, .inl (nI (g 2))), (2, .inl (nI (g (38 + 5 * c)))), (0, .inr (.inr (5, a, 0))), (1, .inl (nI c))], [.inl (nI (g (38 + 5 * c)))], h)) (P := True) rfl trivial ?_
    refine jt_iret jm_m157 26 rfl ?_
    exact ⟨jt_ln (by unfold sp_goal; rw [d2]; rfl), rfl⟩
  · have d3 : g (36 + 5 * c) = 4 := nI_inj (by omega) (by decide) d3
    show jt_T 157 (72, [(3, .inl (nI (g 2))), (2, .inl (nI (g (38 + 5 * c)))), (0, .inr (.inr (5, a, 0))), (1, .inl (nI c))], [], h) _
    refine jt_go jm_m157 27 3 (f' := (75, [(3, .inl (nI (g 2))), (2, .inl (nI (g (38 + 5 * c)))), (0, .inr (.inr (5, a, 0))), (1, .inl (nI c))], [.inl ((nI (g 2)) - (nI (g 2)) / (nI 2) * (nI 2))], h)) (P := ¬ (nI 2) = 0 ∧ True) rfl ⟨(by decide), trivial⟩ ?_
    refine jt_ti (show ((nI (g 2)) - (nI (g 2)) / (nI 2) * (nI 2)) = nI (g 2 % 2) from jx_r2 _ bt) ?_
    refine jt_nifne jm_m157 30 (by omega) (tgt := 85) (nxt := 78) rfl rfl rfl (fun c75 => ?_) (fun c75 => ?_)
    · refine jt_go jm_m157 35 1 (f' := (86, [(3, .inl (nI (g 2))), (2, .inl (nI (g (38 + 5 * c)))), (0, .inr (.inr (5, a, 0))), (1, .inl (nI c))], [.inl (nI (g (38 + 5 * c)))], h)) (P := True) rfl trivial ?_
      refine jt_iret jm_m157 36 rfl ?_
      exact ⟨jt_ln (by unfold sp_goal; rw [d3]; exact (if_neg c75).symm), rfl⟩
    · refine jt_go jm_m157 31 3 (f' := (82, [(3, .inl (nI (g 2))), (2, .inl (nI (g (38 + 5 * c)))), (0, .inr (.inr (5, a, 0))), (1, .inl (nI c))], [.inl ((nI 15) - (nI (g (38 + 5 * c))))], h)) (P := True) rfl trivial ?_
      refine jt_ti (show ((nI 15) - (nI (g (38 + 5 * c)))) = nI (15 - g (38 + 5 * c)) from nI_subN (by omega)) ?_
      refine jt_go jm_m157 34 1 (f' := (86, [(3, .inl (nI (g 2))), (2, .inl (nI (g (38 + 5 * c)))), (0, .inr (.inr (5, a, 0))), (1, .inl (nI c))], [.inl (nI (15 - g (38 + 5 * c)))], h)) (P := True) rfl trivial ?_
      refine jt_iret jm_m157 36 rfl ?_
      exact ⟨jt_ln (by unfold sp_goal; rw [d3]; exact (if_pos c75).symm), rfl⟩
  · have d4 : g (36 + 5 * c) = 5 := nI_inj (by omega) (by decide) d4
    show jt_T 157 (87, [(3, .inl (nI (g 2))), (2, .inl (nI (g (38 + 5 * c)))), (0, .inr (.inr (5, a, 0))), (1, .inl (nI c))], [], h) _
    refine jt_go jm_m157 37 2 (f' := (90, [(3, .inl (nI (g 2))), (2, .inl (nI (g (38 + 5 * c)))), (0, .inr (.inr (5, a, 0))), (1, .inl (nI c))], [.inl (nI 20), .inl (nI (g 2))], h)) (P := True) rfl trivial ?_
    refine jt_nicge jm_m157 39 (a := g 2) (b := 20) (by omega) (by omega) (tgt := 98) (nxt := 93) rfl rfl rfl (fun c90 => ?_) (fun c90 => ?_)
    · refine jt_go jm_m157 43 3 (f' := (101, [(3, .inl (nI (g 2))), (2, .inl (nI (g (38 + 5 * c)))), (0, .inr (.inr (5, a, 0))), (1, .inl (nI c))], [.inl (nI (g (38 + 5 * c))), .inl (nI 4), .inr (.inr (5, a, 0))], h)) (P := True) rfl trivial ?_
      refine jt_callp (w := .inl (nI (sp_rich g 4 (g (38 + 5 * c)) 16))) jm_m157 46 (mi' := 155) (as := [.inr (.inr (5, a, 0)), .inl (nI 4), .inl (nI (g (38 + 5 * c)))]) (rest := []) (nxt := 104) rfl rfl jm_m155 rfl rfl (tb_most R (by decide) (fun p hp => jw_fish W hp) (by omega)) ?_
      refine jt_go jm_m157 47 1 (f' := (108, [(3, .inl (nI (g 2))), (2, .inl (nI (g (38 + 5 * c)))), (0, .inr (.inr (5, a, 0))), (1, .inl (nI c))], [.inl (nI (sp_rich g 4 (g (38 + 5 * c)) 16))], h)) (P := True) rfl trivial ?_
      refine jt_iret jm_m157 49 rfl ?_
      exact ⟨jt_ln (by unfold sp_goal; rw [d4]; exact (if_pos (by omega)).symm), rfl⟩
    · refine jt_go jm_m157 40 2 (f' := (95, [(3, .inl (nI (g 2))), (2, .inl (nI (g (38 + 5 * c)))), (0, .inr (.inr (5, a, 0))), (1, .inl (nI c))], [.inl (nI 4), .inl (nI (g 2))], h)) (P := True) rfl trivial ?_
      refine jt_nicgt jm_m157 42 (a := g 2) (b := 4) (by omega) (by omega) (tgt := 107) (nxt := 98) rfl rfl rfl (fun c95 => ?_) (fun c95 => ?_)
      · refine jt_go jm_m157 48 1 (f' := (108, [(3, .inl (nI (g 2))), (2, .inl (nI (g (38 + 5 * c)))), (0, .inr (.inr (5, a, 0))), (1, .inl (nI c))], [.inl (nI (g (38 + 5 * c)))], h)) (P := True) rfl trivial ?_
        refine jt_iret jm_m157 49 rfl ?_
        exact ⟨jt_ln (by unfold sp_goal; rw [d4]; exact (if_neg (by omega)).symm), rfl⟩
      · refine jt_go jm_m157 43 3 (f' := (101, [(3, .inl (nI (g 2))), (2, .inl (nI (g (38 + 5 * c)))), (0, .inr (.inr (5, a, 0))), (1, .inl (nI c))], [.inl (nI (g (38 + 5 * c))), .inl (nI 4), .inr (.inr (5, a, 0))], h)) (P := True) rfl trivial ?_
        refine jt_callp (w := .inl (nI (sp_rich g 4 (g (38 + 5 * c)) 16))) jm_m157 46 (mi' := 155) (as := [.inr (.inr (5, a, 0)), .inl (nI 4), .inl (nI (g (38 + 5 * c)))]) (rest := []) (nxt := 104) rfl rfl jm_m155 rfl rfl (tb_most R (by decide) (fun p hp => jw_fish W hp) (by omega)) ?_
        refine jt_go jm_m157 47 1 (f' := (108, [(3, .inl (nI (g 2))), (2, .inl (nI (g (38 + 5 * c)))), (0, .inr (.inr (5, a, 0))), (1, .inl (nI c))], [.inl (nI (sp_rich g 4 (g (38 + 5 * c)) 16))], h)) (P := True) rfl trivial ?_
        refine jt_iret jm_m157 49 rfl ?_
        exact ⟨jt_ln (by unfold sp_goal; rw [d4]; exact (if_pos (by omega)).symm), rfl⟩
  · have d5 : g (36 + 5 * c) = 6 := nI_inj (by omega) (by decide) d5
    show jt_T 157 (64, [(3, .inl (nI (g 2))), (2, .inl (nI (g (38 + 5 * c)))), (0, .inr (.inr (5, a, 0))), (1, .inl (nI c))], [], h) _
    refine jt_go jm_m157 21 2 (f' := (66, [(3, .inl (nI (g 2))), (2, .inl (nI (g (38 + 5 * c)))), (0, .inr (.inr (5, a, 0))), (1, .inl (nI c))], [.inl (nI c), .inr (.inr (5, a, 0))], h)) (P := True) rfl trivial ?_
    refine jt_callp (w := .inl (nI (g (38 + 5 * (sp_near g c (g 0)).1)))) jm_m157 23 (mi' := 156) (as := [.inr (.inr (5, a, 0)), .inl (nI c)]) (rest := []) (nxt := 69) rfl rfl jm_m156 rfl rfl (tb_near R W hc) ?_
    refine jt_iret jm_m157 24 rfl ?_
    exact ⟨jt_ln (by unfold sp_goal; rw [d5]; rfl), rfl⟩
  · have d0 : ¬ g (36 + 5 * c) = 1 := fun z => d0 (by rw [z]; rfl)
    have d1 : ¬ g (36 + 5 * c) = 2 := fun z => d1 (by rw [z]; rfl)
    have d2 : ¬ g (36 + 5 * c) = 3 := fun z => d2 (by rw [z]; rfl)
    have d3 : ¬ g (36 + 5 * c) = 4 := fun z => d3 (by rw [z]; rfl)
    have d4 : ¬ g (36 + 5 * c) = 5 := fun z => d4 (by rw [z]; rfl)
    have d5 : ¬ g (36 + 5 * c) = 6 := fun z => d5 (by rw [z]; rfl)
    show jt_T 157 (109, [(3, .inl (nI (g 2))), (2, .inl (nI (g (38 + 5 * c)))), (0, .inr (.inr (5, a, 0))), (1, .inl (nI c))], [], h) _
    refine jt_go jm_m157 50 3 (f' := (112, [(3, .inl (nI (g 2))), (2, .inl (nI (g (38 + 5 * c)))), (0, .inr (.inr (5, a, 0))), (1, .inl (nI c))], [.inl (nI (g (38 + 5 * c))), .inl (nI 4), .inr (.inr (5, a, 0))], h)) (P := True) rfl trivial ?_
    refine jt_callp (w := .inl (nI (sp_rich g 4 (g (38 + 5 * c)) 16))) jm_m157 53 (mi' := 155) (as := [.inr (.inr (5, a, 0)), .inl (nI 4), .inl (nI (g (38 + 5 * c)))]) (rest := []) (nxt := 115) rfl rfl jm_m155 rfl rfl (tb_most R (by decide) (fun p hp => jw_fish W hp) (by omega)) ?_
    refine jt_iret jm_m157 54 rfl ?_
    exact ⟨jt_ln (by unfold sp_goal; have hk := jw_kind W (c := c) (by omega); rcases (show g (36 + 5 * c) = 0 ∨ g (36 + 5 * c) = 7 by omega) with q | q <;> rw [q] <;> rfl), rfl⟩
set_option maxHeartbeats 4000000 in
set_option maxRecDepth 20000 in
theorem tb_pace {h : jm_M} {a : Nat} {g : Nat → Nat} (R : jg_rel h a g) (W : jw g) {c t : Nat} (hc : c < 6) (ht : t < 24) : jt_Pu 158 [.inr (.inr (5, a, 0)), .inl (nI c), .inl (nI t)] h (.inl (nI (sp_pace (g (36 + 5 * c)) (g (37 + 5 * c)) t))) := by
  show jt_T 158 (0, [(0, .inr (.inr (5, a, 0))), (1, .inl (nI c)), (2, .inl (nI t))], [], h) _
  refine jt_go jm_m158 0 4 (f' := (4, [(0, .inr (.inr (5, a, 0))), (1, .inl (nI c)), (2, .inl (nI t))], [.inl (nI 1), .inl (nI c), .inr (.inr (5, a, 0)), .inl (nI 1)], h)) (P := True) rfl trivial ?_
  refine jt_callp (w := .inl (nI (37 + 5 * c))) jm_m158 4 (mi' := 147) (as := [.inl (nI c), .inl (nI 1)]) (rest := [.inr (.inr (5, a, 0)), .inl (nI 1)]) (nxt := 7) rfl rfl jm_m147 rfl rfl (tb_ofC (k := 37 + 5 * c) (by omega)) ?_
  refine jt_go jm_m158 5 1 (f' := (8, [(0, .inr (.inr (5, a, 0))), (1, .inl (nI c)), (2, .inl (nI t))], [.inl (h (5, a, 0) (nI (37 + 5 * c)).toNatClampNeg), .inl (nI 1)], h)) (P := vp_in (nI (37 + 5 * c)) 78 ∧ True) rfl ⟨(vp_in_nI (by omega) (by decide)), trivial⟩ ?_
  refine jt_ti (show (h (5, a, 0) (nI (37 + 5 * c)).toNatClampNeg) = nI (g (37 + 5 * c)) from jg_get R (k := 37 + 5 * c) (nI_clamp (by omega)) (by omega)) ?_
  have bq1 := jw_fig W (c := c) (by omega)
  refine jt_go jm_m158 6 2 (f' := (10, [(0, .inr (.inr (5, a, 0))), (1, .inl (nI c)), (2, .inl (nI t))], [.inl ((nI (g (37 + 5 * c))) / (nI 4)), .inl (nI 1)], h)) (P := ¬ (nI 4) = 0 ∧ True) rfl ⟨(by decide), trivial⟩ ?_
  refine jt_ti (show ((nI (g (37 + 5 * c))) / (nI 4)) = nI (g (37 + 5 * c) / 4) from jx_d4 _ bq1) ?_
  refine jt_go jm_m158 8 1 (f' := (11, [(0, .inr (.inr (5, a, 0))), (1, .inl (nI c)), (2, .inl (nI t))], [.inl ((nI 1) + (nI (g (37 + 5 * c) / 4)))], h)) (P := True) rfl trivial ?_
  refine jt_ti (show ((nI 1) + (nI (g (37 + 5 * c) / 4))) = nI (1 + (g (37 + 5 * c) / 4)) from nI_add _ _) ?_
  refine jt_go jm_m158 9 4 (f' := (15, [(3, .inl (nI (1 + (g (37 + 5 * c) / 4)))), (0, .inr (.inr (5, a, 0))), (1, .inl (nI c)), (2, .inl (nI t))], [.inl (nI 0), .inl (nI c), .inr (.inr (5, a, 0))], h)) (P := True) rfl trivial ?_
  refine jt_callp (w := .inl (nI (36 + 5 * c))) jm_m158 13 (mi' := 147) (as := [.inl (nI c), .inl (nI 0)]) (rest := [.inr (.inr (5, a, 0))]) (nxt := 18) rfl rfl jm_m147 rfl rfl (tb_ofC (k := 36 + 5 * c) (by omega)) ?_
  refine jt_go jm_m158 14 1 (f' := (19, [(3, .inl (nI (1 + (g (37 + 5 * c) / 4)))), (0, .inr (.inr (5, a, 0))), (1, .inl (nI c)), (2, .inl (nI t))], [.inl (h (5, a, 0) (nI (36 + 5 * c)).toNatClampNeg)], h)) (P := vp_in (nI (36 + 5 * c)) 78 ∧ True) rfl ⟨(vp_in_nI (by omega) (by decide)), trivial⟩ ?_
  refine jt_ti (show (h (5, a, 0) (nI (36 + 5 * c)).toNatClampNeg) = nI (g (36 + 5 * c)) from jg_get R (k := 36 + 5 * c) (nI_clamp (by omega)) (by omega)) ?_
  have bq2 := jw_kind W (c := c) (by omega)
  refine jt_ts jm_m158 15 rfl ⟨fun d0 => ?_, fun d0 => ⟨fun d1 => ?_, fun d1 => ⟨fun d2 => ?_, fun d2 => ⟨fun d3 => ?_, fun d3 => ⟨fun d4 => ?_, fun d4 => ⟨fun d5 => ?_, fun d5 => ?_⟩⟩⟩⟩⟩⟩
  · have d0 : g (36 + 5 * c) = 2 := nI_inj (by omega) (by decide) d0
    show jt_T 158 (56, [(3, .inl (nI (1 + (g (37 + 5 * c) / 4)))), (0, .inr (.inr (5, a, 0))), (1, .inl (nI c)), (2, .inl (nI t))], [], h) _
    refine jt_go jm_m158 16 3 (f' := (59, [(3, .inl (nI (1 + (g (37 + 5 * c) / 4)))), (0, .inr (.inr (5, a, 0))), (1, .inl (nI c)), (2, .inl (nI t))], [.inl ((nI (1 + (g (37 + 5 * c) / 4))) + (nI 1))], h)) (P := True) rfl trivial ?_
    refine jt_ti (show ((nI (1 + (g (37 + 5 * c) / 4))) + (nI 1)) = nI (1 + (g (37 + 5 * c) / 4) + 1) from nI_add _ _) ?_
    refine jt_iret jm_m158 19 rfl ?_
    exact ⟨jt_ln (by rw [d0]; rfl), rfl⟩
  · have d1 : g (36 + 5 * c) = 3 := nI_inj (by omega) (by decide) d1
    show jt_T 158 (80, [(3, .inl (nI (1 + (g (37 + 5 * c) / 4)))), (0, .inr (.inr (5, a, 0))), (1, .inl (nI c)), (2, .inl (nI t))], [], h) _
    refine jt_go jm_m158 36 1 (f' := (81, [(3, .inl (nI (1 + (g (37 + 5 * c) / 4)))), (0, .inr (.inr (5, a, 0))), (1, .inl (nI c)), (2, .inl (nI t))], [.inl (nI (1 + (g (37 + 5 * c) / 4)))], h)) (P := True) rfl trivial ?_
    refine jt_iret jm_m158 37 rfl ?_
    exact ⟨jt_ln (by rw [d1]; rfl), rfl⟩
  · have d2 : g (36 + 5 * c) = 4 := nI_inj (by omega) (by decide) d2
    show jt_T 158 (60, [(3, .inl (nI (1 + (g (37 + 5 * c) / 4)))), (0, .inr (.inr (5, a, 0))), (1, .inl (nI c)), (2, .inl (nI t))], [], h) _
    refine jt_go jm_m158 20 1 (f' := (61, [(3, .inl (nI (1 + (g (37 + 5 * c) / 4)))), (0, .inr (.inr (5, a, 0))), (1, .inl (nI c)), (2, .inl (nI t))], [.inl (nI 3)], h)) (P := True) rfl trivial ?_
    refine jt_iret jm_m158 21 rfl ?_
    exact ⟨jt_ln (by rw [d2]; rfl), rfl⟩
  · have d3 : g (36 + 5 * c) = 5 := nI_inj (by omega) (by decide) d3
    show jt_T 158 (80, [(3, .inl (nI (1 + (g (37 + 5 * c) / 4)))), (0, .inr (.inr (5, a, 0))), (1, .inl (nI c)), (2, .inl (nI t))], [], h) _
    refine jt_go jm_m158 36 1 (f' := (81, [(3, .inl (nI (1 + (g (37 + 5 * c) / 4)))), (0, .inr (.inr (5, a, 0))), (1, .inl (nI c)), (2, .inl (nI t))], [.inl (nI (1 + (g (37 + 5 * c) / 4)))], h)) (P := True) rfl trivial ?_
    refine jt_iret jm_m158 37 rfl ?_
    exact ⟨jt_ln (by rw [d3]; rfl), rfl⟩
  · have d4 : g (36 + 5 * c) = 6 := nI_inj (by omega) (by decide) d4
    show jt_T 158 (62, [(3, .inl (nI (1 + (g (37 + 5 * c) / 4)))), (0, .inr (.inr (5, a, 0))), (1, .inl (nI c)), (2, .inl (nI t))], [], h) _
    refine jt_go jm_m158 22 4 (f' := (66, [(3, .inl (nI (1 + (g (37 + 5 * c) / 4)))), (0, .inr (.inr (5, a, 0))), (1, .inl (nI c)), (2, .inl (nI t))], [.inl ((nI (1 + (g (37 + 5 * c) / 4))) + (nI 1)), .inl (nI 2)], h)) (P := True) rfl trivial ?_
    refine jt_ti (show ((nI (1 + (g (37 + 5 * c) / 4))) + (nI 1)) = nI (1 + (g (37 + 5 * c) / 4) + 1) from nI_add _ _) ?_
    refine jt_go jm_m158 26 1 (f' := (67, [(3, .inl (nI (1 + (g (37 + 5 * c) / 4)))), (0, .inr (.inr (5, a, 0))), (1, .inl (nI c)), (2, .inl (nI t))], [.inl ((nI 2) * (nI (1 + (g (37 + 5 * c) / 4) + 1)))], h)) (P := True) rfl trivial ?_
    refine jt_ti (show ((nI 2) * (nI (1 + (g (37 + 5 * c) / 4) + 1))) = nI (2 * (1 + (g (37 + 5 * c) / 4) + 1)) from nI_mul _ _) ?_
    refine jt_iret jm_m158 27 rfl ?_
    exact ⟨jt_ln (by rw [d4]; rfl), rfl⟩
  · have d5 : g (36 + 5 * c) = 7 := nI_inj (by omega) (by decide) d5
    show jt_T 158 (68, [(3, .inl (nI (1 + (g (37 + 5 * c) / 4)))), (0, .inr (.inr (5, a, 0))), (1, .inl (nI c)), (2, .inl (nI t))], [], h) _
    refine jt_go jm_m158 28 3 (f' := (71, [(3, .inl (nI (1 + (g (37 + 5 * c) / 4)))), (0, .inr (.inr (5, a, 0))), (1, .inl (nI c)), (2, .inl (nI t))], [.inl ((nI t) - (nI t) / (nI 3) * (nI 3))], h)) (P := ¬ (nI 3) = 0 ∧ True) rfl ⟨(by decide), trivial⟩ ?_
    refine jt_ti (show ((nI t) - (nI t) / (nI 3) * (nI 3)) = nI (t % 3) from jx_r3 _ ht) ?_
    refine jt_nifne jm_m158 31 (by omega) (tgt := 78) (nxt := 74) rfl rfl rfl (fun c71 => ?_) (fun c71 => ?_)
    · refine jt_go jm_m158 34 1 (f' := (79, [(3, .inl (nI (1 + (g (37 + 5 * c) / 4)))), (0, .inr (.inr (5, a, 0))), (1, .inl (nI c)), (2, .inl (nI t))], [.inl (nI 0)], h)) (P := True) rfl trivial ?_
      refine jt_iret jm_m158 35 rfl ?_
      exact ⟨jt_ln (by rw [d5]; exact (if_neg c71).symm), rfl⟩
    · refine jt_go jm_m158 32 2 (f' := (79, [(3, .inl (nI (1 + (g (37 + 5 * c) / 4)))), (0, .inr (.inr (5, a, 0))), (1, .inl (nI c)), (2, .inl (nI t))], [.inl (nI 1)], h)) (P := True) rfl trivial ?_
      refine jt_iret jm_m158 35 rfl ?_
      exact ⟨jt_ln (by rw [d5]; exact (if_pos c71).symm), rfl⟩
  · have d0 : ¬ g (36 + 5 * c) = 2 := fun z => d0 (by rw [z]; rfl)
    have d1 : ¬ g (36 + 5 * c) = 3 := fun z => d1 (by rw [z]; rfl)
    have d2 : ¬ g (36 + 5 * c) = 4 := fun z => d2 (by rw [z]; rfl)
    have d3 : ¬ g (36 + 5 * c) = 5 := fun z => d3 (by rw [z]; rfl)
    have d4 : ¬ g (36 + 5 * c) = 6 := fun z => d4 (by rw [z]; rfl)
    have d5 : ¬ g (36 + 5 * c) = 7 := fun z => d5 (by rw [z]; rfl)
    show jt_T 158 (80, [(3, .inl (nI (1 + (g (37 + 5 * c) / 4)))), (0, .inr (.inr (5, a, 0))), (1, .inl (nI c)), (2, .inl (nI t))], [], h) _
    refine jt_go jm_m158 36 1 (f' := (81, [(3, .inl (nI (1 + (g (37 + 5 * c) / 4)))), (0, .inr (.inr (5, a, 0))), (1, .inl (nI c)), (2, .inl (nI t))], [.inl (nI (1 + (g (37 + 5 * c) / 4)))], h)) (P := True) rfl trivial ?_
    refine jt_iret jm_m158 37 rfl ?_
    exact ⟨jt_ln (by have hk := jw_kind W (c := c) hc; rcases (show g (36 + 5 * c) = 0 ∨ g (36 + 5 * c) = 1 by omega) with q | q <;> rw [q] <;> rfl), rfl⟩
set_option maxHeartbeats 4000000 in
set_option maxRecDepth 20000 in
theorem tb_grow {h : jm_M} {k : Nat} (hk : k < 8) : jt_Pu 159 [.inl (nI k)] h (.inl (nI (sp_grow k))) := by
  show jt_T 159 (0, [(0, .inl (nI k))], [], h) _
  refine jt_go jm_m159 0 2 (f' := (2, [(0, .inl (nI k))], [.inl (nI 3), .inl (nI k)], h)) (P := True) rfl trivial ?_
  refine jt_nicne jm_m159 2 (a := k) (b := 3) (by omega) (by omega) (tgt := 9) (nxt := 5) rfl rfl rfl (fun c2 => ?_) (fun c2 => ?_)
  · refine jt_go jm_m159 5 2 (f' := (11, [(0, .inl (nI k))], [.inl (nI 5), .inl (nI k)], h)) (P := True) rfl trivial ?_
    refine jt_nicne jm_m159 7 (a := k) (b := 5) (by omega) (by omega) (tgt := 18) (nxt := 14) rfl rfl rfl (fun c11 => ?_) (fun c11 => ?_)
    · refine jt_go jm_m159 10 1 (f' := (19, [(0, .inl (nI k))], [.inl (nI 1)], h)) (P := True) rfl trivial ?_
      refine jt_iret jm_m159 11 rfl ?_
      exact ⟨jt_ln (by rcases jt_k8 hk with q | q | q | q | q | q | q | q <;> first | omega | (rw [q]; rfl)), rfl⟩
    · refine jt_go jm_m159 8 2 (f' := (19, [(0, .inl (nI k))], [.inl (nI 0)], h)) (P := True) rfl trivial ?_
      refine jt_iret jm_m159 11 rfl ?_
      exact ⟨jt_ln (by rw [c11]; rfl), rfl⟩
  · refine jt_go jm_m159 3 2 (f' := (19, [(0, .inl (nI k))], [.inl (nI 2)], h)) (P := True) rfl trivial ?_
    refine jt_iret jm_m159 11 rfl ?_
    exact ⟨jt_ln (by rw [c2]; rfl), rfl⟩
set_option maxHeartbeats 4000000 in
set_option maxRecDepth 20000 in
theorem tb_read {h : jm_M} {a : Nat} {g : Nat → Nat} (R : jg_rel h a g) (W : jw g) {c : Nat} (hc : c < 6) : jt_Pu 160 [.inr (.inr (5, a, 0)), .inl (nI c)] h (.inl (jm_b (sp_read g c))) := by
  show jt_T 160 (0, [(0, .inr (.inr (5, a, 0))), (1, .inl (nI c))], [], h) _
  refine jt_go jm_m160 0 3 (f' := (3, [(0, .inr (.inr (5, a, 0))), (1, .inl (nI c))], [.inl (nI 4), .inl (nI c), .inr (.inr (5, a, 0))], h)) (P := True) rfl trivial ?_
  refine jt_callp (w := .inl (nI (40 + 5 * c))) jm_m160 3 (mi' := 147) (as := [.inl (nI c), .inl (nI 4)]) (rest := [.inr (.inr (5, a, 0))]) (nxt := 6) rfl rfl jm_m147 rfl rfl (tb_ofC (k := 40 + 5 * c) (by omega)) ?_
  refine jt_go jm_m160 4 1 (f' := (7, [(0, .inr (.inr (5, a, 0))), (1, .inl (nI c))], [.inl (h (5, a, 0) (nI (40 + 5 * c)).toNatClampNeg)], h)) (P := vp_in (nI (40 + 5 * c)) 78 ∧ True) rfl ⟨(vp_in_nI (by omega) (by decide)), trivial⟩ ?_
  refine jt_ti (show (h (5, a, 0) (nI (40 + 5 * c)).toNatClampNeg) = nI (g (40 + 5 * c)) from jg_get R (k := 40 + 5 * c) (nI_clamp (by omega)) (by omega)) ?_
  have bq1 := jw_name W (c := c) (by omega)
  refine jt_go jm_m160 5 1 (f' := (9, [(0, .inr (.inr (5, a, 0))), (1, .inl (nI c))], [.inl (nI 9), .inl (nI (g (40 + 5 * c)))], h)) (P := True) rfl trivial ?_
  refine jt_niceq jm_m160 6 (a := g (40 + 5 * c)) (b := 9) (by omega) (by omega) (tgt := 39) (nxt := 12) rfl rfl rfl (fun c9 => ?_) (fun c9 => ?_)
  · refine jt_go jm_m160 23 1 (f' := (40, [(0, .inr (.inr (5, a, 0))), (1, .inl (nI c))], [.inl (nI 0)], h)) (P := True) rfl trivial ?_
    refine jt_zret jm_m160 24 rfl (Or.inl rfl) ?_
    exact ⟨jt_lb0 (by omega), rfl⟩
  · refine jt_go jm_m160 7 3 (f' := (15, [(0, .inr (.inr (5, a, 0))), (1, .inl (nI c))], [.inl (nI 0), .inl (nI c), .inr (.inr (5, a, 0))], h)) (P := True) rfl trivial ?_
    refine jt_callp (w := .inl (nI (36 + 5 * c))) jm_m160 10 (mi' := 147) (as := [.inl (nI c), .inl (nI 0)]) (rest := [.inr (.inr (5, a, 0))]) (nxt := 18) rfl rfl jm_m147 rfl rfl (tb_ofC (k := 36 + 5 * c) (by omega)) ?_
    refine jt_go jm_m160 11 1 (f' := (19, [(0, .inr (.inr (5, a, 0))), (1, .inl (nI c))], [.inl (h (5, a, 0) (nI (36 + 5 * c)).toNatClampNeg)], h)) (P := vp_in (nI (36 + 5 * c)) 78 ∧ True) rfl ⟨(vp_in_nI (by omega) (by decide)), trivial⟩ ?_
    refine jt_ti (show (h (5, a, 0) (nI (36 + 5 * c)).toNatClampNeg) = nI (g (36 + 5 * c)) from jg_get R (k := 36 + 5 * c) (nI_clamp (by omega)) (by omega)) ?_
    have bq2 := jw_kind W (c := c) (by omega)
    refine jt_go jm_m160 12 1 (f' := (20, [(0, .inr (.inr (5, a, 0))), (1, .inl (nI c))], [.inl (nI 5), .inl (nI (g (36 + 5 * c)))], h)) (P := True) rfl trivial ?_
    refine jt_niceq jm_m160 13 (a := g (36 + 5 * c)) (b := 5) (by omega) (by omega) (tgt := 35) (nxt := 23) rfl rfl rfl (fun c20 => ?_) (fun c20 => ?_)
    · refine jt_go jm_m160 21 2 (f' := (40, [(0, .inr (.inr (5, a, 0))), (1, .inl (nI c))], [.inl (nI 1)], h)) (P := True) rfl trivial ?_
      refine jt_zret jm_m160 24 rfl (Or.inr rfl) ?_
      exact ⟨jt_lb1 (by constructor <;> omega), rfl⟩
    · refine jt_go jm_m160 14 3 (f' := (26, [(0, .inr (.inr (5, a, 0))), (1, .inl (nI c))], [.inl (nI 3), .inl (nI c), .inr (.inr (5, a, 0))], h)) (P := True) rfl trivial ?_
      refine jt_callp (w := .inl (nI (39 + 5 * c))) jm_m160 17 (mi' := 147) (as := [.inl (nI c), .inl (nI 3)]) (rest := [.inr (.inr (5, a, 0))]) (nxt := 29) rfl rfl jm_m147 rfl rfl (tb_ofC (k := 39 + 5 * c) (by omega)) ?_
      refine jt_go jm_m160 18 1 (f' := (30, [(0, .inr (.inr (5, a, 0))), (1, .inl (nI c))], [.inl (h (5, a, 0) (nI (39 + 5 * c)).toNatClampNeg)], h)) (P := vp_in (nI (39 + 5 * c)) 78 ∧ True) rfl ⟨(vp_in_nI (by omega) (by decide)), trivial⟩ ?_
      refine jt_ti (show (h (5, a, 0) (nI (39 + 5 * c)).toNatClampNeg) = nI (g (39 + 5 * c)) from jg_get R (k := 39 + 5 * c) (nI_clamp (by omega)) (by omega)) ?_
      have bq3 := jw_hair W (c := c) (by omega)
      refine jt_go jm_m160 19 1 (f' := (32, [(0, .inr (.inr (5, a, 0))), (1, .inl (nI c))], [.inl (nI 48), .inl (nI (g (39 + 5 * c)))], h)) (P := True) rfl trivial ?_
      refine jt_nicge jm_m160 20 (a := g (39 + 5 * c)) (b := 48) (by omega) (by omega) (tgt := 39) (nxt := 35) rfl rfl rfl (fun c32 => ?_) (fun c32 => ?_)
      · refine jt_go jm_m160 23 1 (f' := (40, [(0, .inr (.inr (5, a, 0))), (1, .inl (nI c))], [.inl (nI 0)], h)) (P := True) rfl trivial ?_
        refine jt_zret jm_m160 24 rfl (Or.inl rfl) ?_
        exact ⟨jt_lb0 (by omega), rfl⟩
      · refine jt_go jm_m160 21 2 (f' := (40, [(0, .inr (.inr (5, a, 0))), (1, .inl (nI c))], [.inl (nI 1)], h)) (P := True) rfl trivial ?_
        refine jt_zret jm_m160 24 rfl (Or.inr rfl) ?_
        exact ⟨jt_lb1 (by constructor <;> omega), rfl⟩
set_option maxHeartbeats 4000000 in
set_option maxRecDepth 20000 in
theorem tb_pass {h : jm_M} {a : Nat} {g : Nat → Nat} (R : jg_rel h a g) (W : jw g) {c : Nat} (hc : c < g 0) {fm : Nat} (hf : fm ≤ 1) : jt_T 161 (0, [(0, .inr (.inr (5, a, 0))), (1, .inl (nI c)), (2, .inl (nI fm))], [], h) (fun u h' => u = none ∧ jg_rel h' a (sp_pass g c fm) ∧ jg_fr a h h') := by
  have bn := jw_n W
  have bm := jw_m W
  have bt := jw_t W
  have bq := jw_nm W hc
  refine jt_go jm_m161 0 3 (f' := (3, [(0, .inr (.inr (5, a, 0))), (1, .inl (nI c)), (2, .inl (nI fm))], [.inl (nI 4), .inl (nI c), .inr (.inr (5, a, 0))], h)) (P := True) rfl trivial ?_
  refine jt_callp (w := .inl (nI (40 + 5 * c))) jm_m161 3 (mi' := 147) (as := [.inl (nI c), .inl (nI 4)]) (rest := [.inr (.inr (5, a, 0))]) (nxt := 6) rfl rfl jm_m147 rfl rfl (tb_ofC (k := 40 + 5 * c) (by omega)) ?_
  refine jt_go jm_m161 4 1 (f' := (7, [(0, .inr (.inr (5, a, 0))), (1, .inl (nI c)), (2, .inl (nI fm))], [.inl (h (5, a, 0) (nI (40 + 5 * c)).toNatClampNeg)], h)) (P := vp_in (nI (40 + 5 * c)) 78 ∧ True) rfl ⟨(vp_in_nI (by omega) (by decide)), trivial⟩ ?_
  refine jt_ti (show (h (5, a, 0) (nI (40 + 5 * c)).toNatClampNeg) = nI (g (40 + 5 * c)) from jg_get R (k := 40 + 5 * c) (nI_clamp (by omega)) (by omega)) ?_
  have bq1 := jw_name W (c := c) (by omega)
  refine jt_go jm_m161 5 3 (f' := (10, [(3, .inl (nI (g (40 + 5 * c)))), (0, .inr (.inr (5, a, 0))), (1, .inl (nI c)), (2, .inl (nI fm))], [.inl (nI c), .inr (.inr (5, a, 0))], h)) (P := True) rfl trivial ?_
  refine jt_callp (w := .inl (jm_b (sp_read g c))) jm_m161 8 (mi' := 160) (as := [.inr (.inr (5, a, 0)), .inl (nI c)]) (rest := []) (nxt := 13) rfl rfl jm_m160 rfl rfl (tb_read R W (by omega)) ?_
  refine jt_ifbeq jm_m161 9 (tgt := 38) (nxt := 16) rfl rfl rfl (fun c13 => ?_) (fun c13 => ?_)
  · refine jt_vret jm_m161 24 rfl ?_
    refine ⟨rfl, ?_, jg_fr_rf⟩
    unfold sp_pass
    rw [if_neg (fun z => c13 z.1)]
    exact R
  · have bnm : g (40 + 5 * c) < g 1 := bq.resolve_left c13.1
    refine jt_go jm_m161 10 3 (f' := (19, [(3, .inl (nI (g (40 + 5 * c)))), (0, .inr (.inr (5, a, 0))), (1, .inl (nI c)), (2, .inl (nI fm))], [.inl (nI 1), .inl (nI (g (40 + 5 * c))), .inr (.inr (5, a, 0))], h)) (P := True) rfl trivial ?_
    refine jt_callp (w := .inl (nI (67 + 2 * (g (40 + 5 * c))))) jm_m161 13 (mi' := 148) (as := [.inl (nI (g (40 + 5 * c))), .inl (nI 1)]) (rest := [.inr (.inr (5, a, 0))]) (nxt := 22) rfl rfl jm_m148 rfl rfl (tb_ofM (k := 67 + 2 * (g (40 + 5 * c))) (by omega)) ?_
    refine jt_go jm_m161 14 1 (f' := (23, [(3, .inl (nI (g (40 + 5 * c)))), (0, .inr (.inr (5, a, 0))), (1, .inl (nI c)), (2, .inl (nI fm))], [.inl (h (5, a, 0) (nI (67 + 2 * (g (40 + 5 * c)))).toNatClampNeg)], h)) (P := vp_in (nI (67 + 2 * (g (40 + 5 * c)))) 78 ∧ True) rfl ⟨(vp_in_nI (by omega) (by decide)), trivial⟩ ?_
    refine jt_ti (show (h (5, a, 0) (nI (67 + 2 * (g (40 + 5 * c)))).toNatClampNeg) = nI (g (67 + 2 * (g (40 + 5 * c)))) from jg_get R (k := 67 + 2 * (g (40 + 5 * c))) (nI_clamp (by omega)) (by omega)) ?_
    have bq2 := jw_pas W (c := (g (40 + 5 * c))) (by omega)
    refine jt_go jm_m161 15 1 (f' := (24, [(3, .inl (nI (g (40 + 5 * c)))), (0, .inr (.inr (5, a, 0))), (1, .inl (nI c)), (2, .inl (nI fm))], [.inl (nI 1), .inl (nI (g (67 + 2 * (g (40 + 5 * c)))))], h)) (P := True) rfl trivial ?_
    refine jt_niceq jm_m161 16 (a := g (67 + 2 * (g (40 + 5 * c)))) (b := 1) (by omega) (by omega) (tgt := 38) (nxt := 27) rfl rfl rfl (fun c24 => ?_) (fun c24 => ?_)
    · refine jt_vret jm_m161 24 rfl ?_
      refine ⟨rfl, ?_, jg_fr_rf⟩
      unfold sp_pass
      rw [if_neg (fun z => absurd (c24.symm.trans z.2.2) (by decide))]
      exact R
    · refine jt_go jm_m161 17 3 (f' := (30, [(3, .inl (nI (g (40 + 5 * c)))), (0, .inr (.inr (5, a, 0))), (1, .inl (nI c)), (2, .inl (nI fm))], [.inl (nI 0), .inl (nI (g (40 + 5 * c))), .inr (.inr (5, a, 0))], h)) (P := True) rfl trivial ?_
      refine jt_callp (w := .inl (nI (66 + 2 * (g (40 + 5 * c))))) jm_m161 20 (mi' := 148) (as := [.inl (nI (g (40 + 5 * c))), .inl (nI 0)]) (rest := [.inr (.inr (5, a, 0))]) (nxt := 33) rfl rfl jm_m148 rfl rfl (tb_ofM (k := 66 + 2 * (g (40 + 5 * c))) (by omega)) ?_
      refine jt_go jm_m161 21 1 (f' := (34, [(3, .inl (nI (g (40 + 5 * c)))), (0, .inr (.inr (5, a, 0))), (1, .inl (nI c)), (2, .inl (nI fm))], [.inl (h (5, a, 0) (nI (66 + 2 * (g (40 + 5 * c)))).toNatClampNeg)], h)) (P := vp_in (nI (66 + 2 * (g (40 + 5 * c)))) 78 ∧ True) rfl ⟨(vp_in_nI (by omega) (by decide)), trivial⟩ ?_
      refine jt_ti (show (h (5, a, 0) (nI (66 + 2 * (g (40 + 5 * c)))).toNatClampNeg) = nI (g (66 + 2 * (g (40 + 5 * c)))) from jg_get R (k := 66 + 2 * (g (40 + 5 * c))) (nI_clamp (by omega)) (by omega)) ?_
      have bq3 := jw_side W (c := (g (40 + 5 * c))) (by omega)
      refine jt_go jm_m161 22 1 (f' := (35, [(3, .inl (nI (g (40 + 5 * c)))), (0, .inr (.inr (5, a, 0))), (1, .inl (nI c)), (2, .inl (nI fm))], [.inl (nI fm), .inl (nI (g (66 + 2 * (g (40 + 5 * c)))))], h)) (P := True) rfl trivial ?_
      refine jt_niceq jm_m161 23 (a := g (66 + 2 * (g (40 + 5 * c)))) (b := fm) (by omega) (by omega) (tgt := 39) (nxt := 38) rfl rfl rfl (fun c35 => ?_) (fun c35 => ?_)
      · refine jt_go jm_m161 25 3 (f' := (42, [(3, .inl (nI (g (40 + 5 * c)))), (0, .inr (.inr (5, a, 0))), (1, .inl (nI c)), (2, .inl (nI fm))], [.inl (nI 1), .inl (nI (g (40 + 5 * c))), .inr (.inr (5, a, 0))], h)) (P := True) rfl trivial ?_
        refine jt_callp (w := .inl (nI (67 + 2 * (g (40 + 5 * c))))) jm_m161 28 (mi' := 148) (as := [.inl (nI (g (40 + 5 * c))), .inl (nI 1)]) (rest := [.inr (.inr (5, a, 0))]) (nxt := 45) rfl rfl jm_m148 rfl rfl (tb_ofM (k := 67 + 2 * (g (40 + 5 * c))) (by omega)) ?_
        refine jt_goM jm_m161 29 2 (pc' := 47) (L' := [(3, .inl (nI (g (40 + 5 * c)))), (0, .inr (.inr (5, a, 0))), (1, .inl (nI c)), (2, .inl (nI fm))]) (st' := []) (m' := jm_set h (5, a, 0) (upd (h (5, a, 0)) (nI (67 + 2 * (g (40 + 5 * c)))).toNatClampNeg (nI 1))) (P := vp_in (nI (67 + 2 * (g (40 + 5 * c)))) 78 ∧ True) rfl ⟨(vp_in_nI (by omega) (by decide)), trivial⟩ (fun h1 eh1 => ?_)
        have Fh1 : jg_fr a h h1 := by rw [eh1]; exact jg_fr_set jg_fr_rf
        obtain ⟨gh1, egh1⟩ : ∃ y, y = sp_up g (67 + 2 * (g (40 + 5 * c))) (1) := ⟨_, rfl⟩
        have Rh1 : jg_rel h1 a gh1 := by rw [eh1, egh1]; exact jg_set R (k := 67 + 2 * (g (40 + 5 * c))) (w := 1) (nI_clamp (by omega)) rfl
        refine jt_go jm_m161 31 3 (f' := (50, [(3, .inl (nI (g (40 + 5 * c)))), (0, .inr (.inr (5, a, 0))), (1, .inl (nI c)), (2, .inl (nI fm))], [.inl (nI 0), .inl (nI (g (40 + 5 * c))), .inr (.inr (5, a, 0))], h1)) (P := True) rfl trivial ?_
        refine jt_callp (w := .inl (nI (66 + 2 * (g (40 + 5 * c))))) jm_m161 34 (mi' := 148) (as := [.inl (nI (g (40 + 5 * c))), .inl (nI 0)]) (rest := [.inr (.inr (5, a, 0))]) (nxt := 53) rfl rfl jm_m148 rfl rfl (tb_ofM (k := 66 + 2 * (g (40 + 5 * c))) (by omega)) ?_
        refine jt_go jm_m161 35 3 (f' := (56, [(3, .inl (nI (g (40 + 5 * c)))), (0, .inr (.inr (5, a, 0))), (1, .inl (nI c)), (2, .inl (nI fm))], [.inl ((nI 1) - (nI fm)), .inl (nI (66 + 2 * (g (40 + 5 * c)))), .inr (.inr (5, a, 0))], h1)) (P := True) rfl trivial ?_
        refine jt_ti (show ((nI 1) - (nI fm)) = nI (1 - fm) from nI_subN (by omega)) ?_
        refine jt_goM jm_m161 38 1 (pc' := 57) (L' := [(3, .inl (nI (g (40 + 5 * c)))), (0, .inr (.inr (5, a, 0))), (1, .inl (nI c)), (2, .inl (nI fm))]) (st' := []) (m' := jm_set h1 (5, a, 0) (upd (h1 (5, a, 0)) (nI (66 + 2 * (g (40 + 5 * c)))).toNatClampNeg (nI (1 - fm)))) (P := vp_in (nI (66 + 2 * (g (40 + 5 * c)))) 78 ∧ True) rfl ⟨(vp_in_nI (by omega) (by decide)), trivial⟩ (fun h2 eh2 => ?_)
        have Fh2 : jg_fr a h h2 := by rw [eh2]; exact jg_fr_set Fh1
        obtain ⟨gh2, egh2⟩ : ∃ y, y = sp_up gh1 (66 + 2 * (g (40 + 5 * c))) (1 - fm) := ⟨_, rfl⟩
        have Rh2 : jg_rel h2 a gh2 := by rw [eh2, egh2]; exact jg_set Rh1 (k := 66 + 2 * (g (40 + 5 * c))) (w := 1 - fm) (nI_clamp (by omega)) rfl
        refine jt_vret jm_m161 39 rfl ?_
        refine ⟨rfl, ?_, Fh2⟩
        unfold sp_pass
        rw [if_pos ⟨c13, c35, by omega⟩, ← egh1, ← egh2]
        exact Rh2
      · refine jt_vret jm_m161 24 rfl ?_
        refine ⟨rfl, ?_, jg_fr_rf⟩
        unfold sp_pass
        rw [if_neg (fun z => c35 z.2.1)]
        exact R
set_option maxHeartbeats 4000000 in
set_option maxRecDepth 20000 in
theorem tb_goes0 {h : jm_M} {a : Nat} {g : Nat → Nat} (R : jg_rel h a g) (W : jw g) {c : Nat} (hc : c < g 0) : jt_T 162 (0, [(0, .inr (.inr (5, a, 0))), (1, .inl (nI c)), (2, .inl (nI 0))], [], h) (fun u h' => u = some (.inl (jm_b (sp_sd (g (38 + 5 * c)) ≠ sp_sd (sp_gone g c false (38 + 5 * c))))) ∧ jg_rel h' a (sp_one g c false) ∧ jg_fr a h h') := by
  have bn := jw_n W
  have bm := jw_m W
  have bt := jw_t W
  have ba := jw_at W (c := c) (by omega)
  have bp : sp_pace (g (36 + 5 * c)) (g (37 + 5 * c)) (g 2) ≤ 8 := sp_pace_le (jw_fig W (by omega))
  have bs := sp_toc_lt W hc
  have bg : sp_goal g c < 16 := sp_goalK_lt W hc _
  have Wm := jw_move W hc
  have em : ∀ i, 36 ≤ i → i ≠ 38 + 5 * c → sp_move g c i = g i := fun i h1 h2 => sp_move_ne (by omega) h2
  have hcm : c < sp_move g c 0 := by rw [sp_move_ne (by omega) (by omega)]; exact hc
  refine jt_go jm_m162 0 3 (f' := (3, [(0, .inr (.inr (5, a, 0))), (1, .inl (nI c)), (2, .inl (nI 0))], [.inl (nI 2), .inl (nI c), .inr (.inr (5, a, 0))], h)) (P := True) rfl trivial ?_
  refine jt_callp (w := .inl (nI (38 + 5 * c))) jm_m162 3 (mi' := 147) (as := [.inl (nI c), .inl (nI 2)]) (rest := [.inr (.inr (5, a, 0))]) (nxt := 6) rfl rfl jm_m147 rfl rfl (tb_ofC (k := 38 + 5 * c) (by omega)) ?_
  refine jt_go jm_m162 4 1 (f' := (7, [(0, .inr (.inr (5, a, 0))), (1, .inl (nI c)), (2, .inl (nI 0))], [.inl (h (5, a, 0) (nI (38 + 5 * c)).toNatClampNeg)], h)) (P := vp_in (nI (38 + 5 * c)) 78 ∧ True) rfl ⟨(vp_in_nI (by omega) (by decide)), trivial⟩ ?_
  refine jt_ti (show (h (5, a, 0) (nI (38 + 5 * c)).toNatClampNeg) = nI (g (38 + 5 * c)) from jg_get R (k := 38 + 5 * c) (nI_clamp (by omega)) (by omega)) ?_
  have bq1 := jw_at W (c := c) (by omega)
  refine jt_go jm_m162 5 2 (f' := (9, [(3, .inl (nI (g (38 + 5 * c)))), (0, .inr (.inr (5, a, 0))), (1, .inl (nI c)), (2, .inl (nI 0))], [.inl (nI 0)], h)) (P := True) rfl trivial ?_
  refine jt_nifeq jm_m162 7 (by omega) (tgt := 16) (nxt := 12) rfl rfl rfl (fun c9 => ?_) (fun c9 => ?_)
  · refine jt_go jm_m162 10 2 (f' := (18, [(3, .inl (nI (g (38 + 5 * c)))), (0, .inr (.inr (5, a, 0))), (1, .inl (nI c)), (2, .inl (nI 0))], [.inl (nI c), .inr (.inr (5, a, 0))], h)) (P := True) rfl trivial ?_
    refine jt_callp (w := .inl (nI (sp_goal g c))) jm_m162 12 (mi' := 157) (as := [.inr (.inr (5, a, 0)), .inl (nI c)]) (rest := []) (nxt := 21) rfl rfl jm_m157 rfl rfl (tb_goal R W hc) ?_
    refine jt_go jm_m162 13 3 (f' := (26, [(4, .inl (nI (sp_goal g c))), (3, .inl (nI (g (38 + 5 * c)))), (0, .inr (.inr (5, a, 0))), (1, .inl (nI c)), (2, .inl (nI 0))], [.inl (nI (sp_goal g c)), .inl (nI (g (38 + 5 * c)))], h)) (P := True) rfl trivial ?_
    refine jt_callp (w := .inl (nI (sp_ap (g (38 + 5 * c)) (sp_goal g c)))) jm_m162 16 (mi' := 145) (as := [.inl (nI (g (38 + 5 * c))), .inl (nI (sp_goal g c))]) (rest := []) (nxt := 29) rfl rfl jm_m145 rfl rfl (tb_apart (by omega) (by omega)) ?_
    have bq2 : sp_ap (g (38 + 5 * c)) (sp_goal g c) < 16 := sp_ap_lt (by omega) (by omega)
    refine jt_go jm_m162 17 5 (f' := (34, [(4, .inl (nI (sp_goal g c))), (3, .inl (nI (g (38 + 5 * c)))), (0, .inr (.inr (5, a, 0))), (1, .inl (nI c)), (2, .inl (nI 0))], [.inl (h (5, a, 0) (nI 2).toNatClampNeg), .inl (nI c), .inr (.inr (5, a, 0)), .inl (nI (sp_ap (g (38 + 5 * c)) (sp_goal g c)))], h)) (P := vp_in (nI 2) 78 ∧ True) rfl ⟨(vp_in_nI (by omega) (by decide)), trivial⟩ ?_
    refine jt_ti (show (h (5, a, 0) (nI 2).toNatClampNeg) = nI (g 2) from jg_get R (k := 2) (nI_clamp (by omega)) (by omega)) ?_
    have bq3 := jw_t W
    refine jt_callp (w := .inl (nI (sp_pace (g (36 + 5 * c)) (g (37 + 5 * c)) (g 2)))) jm_m162 22 (mi' := 158) (as := [.inr (.inr (5, a, 0)), .inl (nI c), .inl (nI (g 2))]) (rest := [.inl (nI (sp_ap (g (38 + 5 * c)) (sp_goal g c)))]) (nxt := 37) rfl rfl jm_m158 rfl rfl (tb_pace R W (by omega) bt) ?_
    refine jt_callp (w := .inl (nI (min (sp_ap (g (38 + 5 * c)) (sp_goal g c)) (sp_pace (g (36 + 5 * c)) (g (37 + 5 * c)) (g 2))))) jm_m162 23 (mi' := 144) (as := [.inl (nI (sp_ap (g (38 + 5 * c)) (sp_goal g c))), .inl (nI (sp_pace (g (36 + 5 * c)) (g (37 + 5 * c)) (g 2)))]) (rest := []) (nxt := 40) rfl rfl jm_m144 rfl rfl (tb_least (by omega) (by omega)) ?_
    refine jt_go jm_m162 24 3 (f' := (45, [(5, .inl (nI (min (sp_ap (g (38 + 5 * c)) (sp_goal g c)) (sp_pace (g (36 + 5 * c)) (g (37 + 5 * c)) (g 2))))), (4, .inl (nI (sp_goal g c))), (3, .inl (nI (g (38 + 5 * c)))), (0, .inr (.inr (5, a, 0))), (1, .inl (nI c)), (2, .inl (nI 0))], [.inl (nI (g (38 + 5 * c))), .inl (nI (sp_goal g c))], h)) (P := True) rfl trivial ?_
    refine jt_nicle jm_m162 27 (a := sp_goal g c) (b := g (38 + 5 * c)) (by omega) (by omega) (tgt := 55) (nxt := 48) rfl rfl rfl (fun c45 => ?_) (fun c45 => ?_)
    · have bap := sp_ap_ge c45
      refine jt_go jm_m162 32 3 (f' := (59, [(5, .inl (nI (min (sp_ap (g (38 + 5 * c)) (sp_goal g c)) (sp_pace (g (36 + 5 * c)) (g (37 + 5 * c)) (g 2))))), (4, .inl (nI (sp_goal g c))), (3, .inl (nI (g (38 + 5 * c)))), (0, .inr (.inr (5, a, 0))), (1, .inl (nI c)), (2, .inl (nI 0))], [.inl ((nI (g (38 + 5 * c))) - (nI (min (sp_ap (g (38 + 5 * c)) (sp_goal g c)) (sp_pace (g (36 + 5 * c)) (g (37 + 5 * c)) (g 2)))))], h)) (P := True) rfl trivial ?_
      refine jt_ti (show ((nI (g (38 + 5 * c))) - (nI (min (sp_ap (g (38 + 5 * c)) (sp_goal g c)) (sp_pace (g (36 + 5 * c)) (g (37 + 5 * c)) (g 2))))) = nI (sp_toc g c) from by rw [nI_subN (by omega), bap]; exact congrArg nI (show g (38 + 5 * c) - min (g (38 + 5 * c) - sp_goal g c) (sp_pace (g (36 + 5 * c)) (g (37 + 5 * c)) (g 2)) = sp_toc g c from (if_neg (by omega)).symm)) ?_
      refine jt_go jm_m162 35 4 (f' := (64, [(6, .inl (nI (sp_toc g c))), (5, .inl (nI (min (sp_ap (g (38 + 5 * c)) (sp_goal g c)) (sp_pace (g (36 + 5 * c)) (g (37 + 5 * c)) (g 2))))), (4, .inl (nI (sp_goal g c))), (3, .inl (nI (g (38 + 5 * c)))), (0, .inr (.inr (5, a, 0))), (1, .inl (nI c)), (2, .inl (nI 0))], [.inl (nI 2), .inl (nI c), .inr (.inr (5, a, 0))], h)) (P := True) rfl trivial ?_
      refine jt_callp (w := .inl (nI (38 + 5 * c))) jm_m162 39 (mi' := 147) (as := [.inl (nI c), .inl (nI 2)]) (rest := [.inr (.inr (5, a, 0))]) (nxt := 67) rfl rfl jm_m147 rfl rfl (tb_ofC (k := 38 + 5 * c) (by omega)) ?_
      refine jt_goM jm_m162 40 2 (pc' := 70) (L' := [(6, .inl (nI (sp_toc g c))), (5, .inl (nI (min (sp_ap (g (38 + 5 * c)) (sp_goal g c)) (sp_pace (g (36 + 5 * c)) (g (37 + 5 * c)) (g 2))))), (4, .inl (nI (sp_goal g c))), (3, .inl (nI (g (38 + 5 * c)))), (0, .inr (.inr (5, a, 0))), (1, .inl (nI c)), (2, .inl (nI 0))]) (st' := []) (m' := jm_set h (5, a, 0) (upd (h (5, a, 0)) (nI (38 + 5 * c)).toNatClampNeg (nI (sp_toc g c)))) (P := vp_in (nI (38 + 5 * c)) 78 ∧ True) rfl ⟨(vp_in_nI (by omega) (by decide)), trivial⟩ (fun h1 eh1 => ?_)
      have Fh1 : jg_fr a h h1 := by rw [eh1]; exact jg_fr_set jg_fr_rf
      obtain ⟨gh1, egh1⟩ : ∃ y, y = sp_up g (38 + 5 * c) (sp_toc g c) := ⟨_, rfl⟩
      have Rh1 : jg_rel h1 a gh1 := by rw [eh1, egh1]; exact jg_set R (k := 38 + 5 * c) (w := sp_toc g c) (nI_clamp (by omega)) rfl
      refine jt_go jm_m162 42 2 (f' := (73, [(6, .inl (nI (sp_toc g c))), (5, .inl (nI (min (sp_ap (g (38 + 5 * c)) (sp_goal g c)) (sp_pace (g (36 + 5 * c)) (g (37 + 5 * c)) (g 2))))), (4, .inl (nI (sp_goal g c))), (3, .inl (nI (g (38 + 5 * c)))), (0, .inr (.inr (5, a, 0))), (1, .inl (nI c)), (2, .inl (nI 0))], [.inl (nI (g (38 + 5 * c))), .inl (nI (sp_toc g c))], h1)) (P := True) rfl trivial ?_
      refine jt_niceq jm_m162 44 (a := sp_toc g c) (b := g (38 + 5 * c)) (by omega) (by omega) (tgt := 95) (nxt := 76) rfl rfl rfl (fun c73 => ?_) (fun c73 => ?_)
      · have e95 : gh1 = (sp_move g c) := by rw [egh1]; unfold sp_move; rw [if_pos c73]; exact sp_up_self c73
        rw [e95] at Rh1
        refine jt_go jm_m162 60 3 (f' := (98, [(6, .inl (nI (sp_toc g c))), (5, .inl (nI (min (sp_ap (g (38 + 5 * c)) (sp_goal g c)) (sp_pace (g (36 + 5 * c)) (g (37 + 5 * c)) (g 2))))), (4, .inl (nI (sp_goal g c))), (3, .inl (nI (g (38 + 5 * c)))), (0, .inr (.inr (5, a, 0))), (1, .inl (nI c)), (2, .inl (nI 0))], [.inl (nI 3), .inl (nI c), .inr (.inr (5, a, 0))], h1)) (P := True) rfl trivial ?_
        refine jt_callp (w := .inl (nI (39 + 5 * c))) jm_m162 63 (mi' := 147) (as := [.inl (nI c), .inl (nI 3)]) (rest := [.inr (.inr (5, a, 0))]) (nxt := 101) rfl rfl jm_m147 rfl rfl (tb_ofC (k := 39 + 5 * c) (by omega)) ?_
        refine jt_go jm_m162 64 4 (f' := (106, [(6, .inl (nI (sp_toc g c))), (5, .inl (nI (min (sp_ap (g (38 + 5 * c)) (sp_goal g c)) (sp_pace (g (36 + 5 * c)) (g (37 + 5 * c)) (g 2))))), (4, .inl (nI (sp_goal g c))), (3, .inl (nI (g (38 + 5 * c)))), (0, .inr (.inr (5, a, 0))), (1, .inl (nI c)), (2, .inl (nI 0))], [.inl (nI 3), .inl (nI c), .inr (.inr (5, a, 0)), .inl (nI 99), .inl (nI (39 + 5 * c)), .inr (.inr (5, a, 0))], h1)) (P := True) rfl trivial ?_
        refine jt_callp (w := .inl (nI (39 + 5 * c))) jm_m162 68 (mi' := 147) (as := [.inl (nI c), .inl (nI 3)]) (rest := [.inr (.inr (5, a, 0)), .inl (nI 99), .inl (nI (39 + 5 * c)), .inr (.inr (5, a, 0))]) (nxt := 109) rfl rfl jm_m147 rfl rfl (tb_ofC (k := 39 + 5 * c) (by omega)) ?_
        refine jt_go jm_m162 69 1 (f' := (110, [(6, .inl (nI (sp_toc g c))), (5, .inl (nI (min (sp_ap (g (38 + 5 * c)) (sp_goal g c)) (sp_pace (g (36 + 5 * c)) (g (37 + 5 * c)) (g 2))))), (4, .inl (nI (sp_goal g c))), (3, .inl (nI (g (38 + 5 * c)))), (0, .inr (.inr (5, a, 0))), (1, .inl (nI c)), (2, .inl (nI 0))], [.inl (h1 (5, a, 0) (nI (39 + 5 * c)).toNatClampNeg), .inl (nI 99), .inl (nI (39 + 5 * c)), .inr (.inr (5, a, 0))], h1)) (P := vp_in (nI (39 + 5 * c)) 78 ∧ True) rfl ⟨(vp_in_nI (by omega) (by decide)), trivial⟩ ?_
        refine jt_ti (show (h1 (5, a, 0) (nI (39 + 5 * c)).toNatClampNeg) = nI ((sp_move g c) (39 + 5 * c)) from jg_get Rh1 (k := 39 + 5 * c) (nI_clamp (by omega)) (by omega)) ?_
        have bq4 := jw_hair Wm (c := c) (by omega)
        refine jt_go jm_m162 70 3 (f' := (113, [(6, .inl (nI (sp_toc g c))), (5, .inl (nI (min (sp_ap (g (38 + 5 * c)) (sp_goal g c)) (sp_pace (g (36 + 5 * c)) (g (37 + 5 * c)) (g 2))))), (4, .inl (nI (sp_goal g c))), (3, .inl (nI (g (38 + 5 * c)))), (0, .inr (.inr (5, a, 0))), (1, .inl (nI c)), (2, .inl (nI 0))], [.inl (nI 0), .inl (nI c), .inr (.inr (5, a, 0)), .inl (nI ((sp_move g c) (39 + 5 * c))), .inl (nI 99), .inl (nI (39 + 5 * c)), .inr (.inr (5, a, 0))], h1)) (P := True) rfl trivial ?_
        refine jt_callp (w := .inl (nI (36 + 5 * c))) jm_m162 73 (mi' := 147) (as := [.inl (nI c), .inl (nI 0)]) (rest := [.inr (.inr (5, a, 0)), .inl (nI ((sp_move g c) (39 + 5 * c))), .inl (nI 99), .inl (nI (39 + 5 * c)), .inr (.inr (5, a, 0))]) (nxt := 116) rfl rfl jm_m147 rfl rfl (tb_ofC (k := 36 + 5 * c) (by omega)) ?_
        refine jt_go jm_m162 74 1 (f' := (117, [(6, .inl (nI (sp_toc g c))), (5, .inl (nI (min (sp_ap (g (38 + 5 * c)) (sp_goal g c)) (sp_pace (g (36 + 5 * c)) (g (37 + 5 * c)) (g 2))))), (4, .inl (nI (sp_goal g c))), (3, .inl (nI (g (38 + 5 * c)))), (0, .inr (.inr (5, a, 0))), (1, .inl (nI c)), (2, .inl (nI 0))], [.inl (h1 (5, a, 0) (nI (36 + 5 * c)).toNatClampNeg), .inl (nI ((sp_move g c) (39 + 5 * c))), .inl (nI 99), .inl (nI (39 + 5 * c)), .inr (.inr (5, a, 0))], h1)) (P := vp_in (nI (36 + 5 * c)) 78 ∧ True) rfl ⟨(vp_in_nI (by omega) (by decide)), trivial⟩ ?_
        refine jt_ti (show (h1 (5, a, 0) (nI (36 + 5 * c)).toNatClampNeg) = nI ((sp_move g c) (36 + 5 * c)) from jg_get Rh1 (k := 36 + 5 * c) (nI_clamp (by omega)) (by omega)) ?_
        have bq5 := jw_kind Wm (c := c) (by omega)
        refine jt_callp (w := .inl (nI (sp_grow ((sp_move g c) (36 + 5 * c))))) jm_m162 75 (mi' := 159) (as := [.inl (nI ((sp_move g c) (36 + 5 * c)))]) (rest := [.inl (nI ((sp_move g c) (39 + 5 * c))), .inl (nI 99), .inl (nI (39 + 5 * c)), .inr (.inr (5, a, 0))]) (nxt := 120) rfl rfl jm_m159 rfl rfl (tb_grow (by omega)) ?_
        have bgr := sp_grow_le ((sp_move g c) (36 + 5 * c))
        refine jt_go jm_m162 76 1 (f' := (121, [(6, .inl (nI (sp_toc g c))), (5, .inl (nI (min (sp_ap (g (38 + 5 * c)) (sp_goal g c)) (sp_pace (g (36 + 5 * c)) (g (37 + 5 * c)) (g 2))))), (4, .inl (nI (sp_goal g c))), (3, .inl (nI (g (38 + 5 * c)))), (0, .inr (.inr (5, a, 0))), (1, .inl (nI c)), (2, .inl (nI 0))], [.inl ((nI ((sp_move g c) (39 + 5 * c))) + (nI (sp_grow ((sp_move g c) (36 + 5 * c))))), .inl (nI 99), .inl (nI (39 + 5 * c)), .inr (.inr (5, a, 0))], h1)) (P := True) rfl trivial ?_
        refine jt_ti (show ((nI ((sp_move g c) (39 + 5 * c))) + (nI (sp_grow ((sp_move g c) (36 + 5 * c))))) = nI ((sp_move g c) (39 + 5 * c) + (sp_grow ((sp_move g c) (36 + 5 * c)))) from nI_add _ _) ?_
        refine jt_callp (w := .inl (nI (min 99 ((sp_move g c) (39 + 5 * c) + (sp_grow ((sp_move g c) (36 + 5 * c))))))) jm_m162 77 (mi' := 144) (as := [.inl (nI 99), .inl (nI ((sp_move g c) (39 + 5 * c) + (sp_grow ((sp_move g c) (36 + 5 * c)))))]) (rest := [.inl (nI (39 + 5 * c)), .inr (.inr (5, a, 0))]) (nxt := 124) rfl rfl jm_m144 rfl rfl (tb_least (by omega) (by omega)) ?_
        refine jt_goM jm_m162 78 1 (pc' := 125) (L' := [(6, .inl (nI (sp_toc g c))), (5, .inl (nI (min (sp_ap (g (38 + 5 * c)) (sp_goal g c)) (sp_pace (g (36 + 5 * c)) (g (37 + 5 * c)) (g 2))))), (4, .inl (nI (sp_goal g c))), (3, .inl (nI (g (38 + 5 * c)))), (0, .inr (.inr (5, a, 0))), (1, .inl (nI c)), (2, .inl (nI 0))]) (st' := []) (m' := jm_set h1 (5, a, 0) (upd (h1 (5, a, 0)) (nI (39 + 5 * c)).toNatClampNeg (nI (min 99 ((sp_move g c) (39 + 5 * c) + (sp_grow ((sp_move g c) (36 + 5 * c)))))))) (P := vp_in (nI (39 + 5 * c)) 78 ∧ True) rfl ⟨(vp_in_nI (by omega) (by decide)), trivial⟩ (fun h2 eh2 => ?_)
        have Fh2 : jg_fr a h h2 := by rw [eh2]; exact jg_fr_set Fh1
        obtain ⟨gh2, egh2⟩ : ∃ y, y = sp_up (sp_move g c) (39 + 5 * c) (min 99 ((sp_move g c) (39 + 5 * c) + (sp_grow ((sp_move g c) (36 + 5 * c))))) := ⟨_, rfl⟩
        have Rh2 : jg_rel h2 a gh2 := by rw [eh2, egh2]; exact jg_set Rh1 (k := 39 + 5 * c) (w := min 99 ((sp_move g c) (39 + 5 * c) + (sp_grow ((sp_move g c) (36 + 5 * c))))) (nI_clamp (by omega)) rfl
        have eg : gh2 = sp_gone g c false := by rw [egh2]; rfl
        rw [eg] at Rh2
        have Wg := jw_gone (kept := false) W hc
        have hcg : c < sp_gone g c false 0 := by rw [sp_gone_ne W hc (by omega) (by omega) (by omega)]; exact hc
        refine jt_go jm_m162 79 1 (f' := (127, [(6, .inl (nI (sp_toc g c))), (5, .inl (nI (min (sp_ap (g (38 + 5 * c)) (sp_goal g c)) (sp_pace (g (36 + 5 * c)) (g (37 + 5 * c)) (g 2))))), (4, .inl (nI (sp_goal g c))), (3, .inl (nI (g (38 + 5 * c)))), (0, .inr (.inr (5, a, 0))), (1, .inl (nI c)), (2, .inl (nI 0))], [.inl (nI (sp_toc g c))], h2)) (P := True) rfl trivial ?_
        refine jt_callp (w := .inl (nI (sp_sd (sp_toc g c)))) jm_m162 80 (mi' := 154) (as := [.inl (nI (sp_toc g c))]) (rest := []) (nxt := 130) rfl rfl jm_m154 rfl rfl (tb_sideOf (by omega)) ?_
        have bq6 := sp_sd_le (sp_toc g c)
        refine jt_go jm_m162 81 1 (f' := (131, [(6, .inl (nI (sp_toc g c))), (5, .inl (nI (min (sp_ap (g (38 + 5 * c)) (sp_goal g c)) (sp_pace (g (36 + 5 * c)) (g (37 + 5 * c)) (g 2))))), (4, .inl (nI (sp_goal g c))), (3, .inl (nI (g (38 + 5 * c)))), (0, .inr (.inr (5, a, 0))), (1, .inl (nI c)), (2, .inl (nI 0))], [.inl (nI (g (38 + 5 * c))), .inl (nI (sp_sd (sp_toc g c)))], h2)) (P := True) rfl trivial ?_
        refine jt_callp (w := .inl (nI (sp_sd (g (38 + 5 * c))))) jm_m162 82 (mi' := 154) (as := [.inl (nI (g (38 + 5 * c)))]) (rest := [.inl (nI (sp_sd (sp_toc g c)))]) (nxt := 134) rfl rfl jm_m154 rfl rfl (tb_sideOf (by omega)) ?_
        have bq7 := sp_sd_le (g (38 + 5 * c))
        refine jt_niceq jm_m162 83 (a := sp_sd (sp_toc g c)) (b := sp_sd (g (38 + 5 * c))) (by omega) (by omega) (tgt := 141) (nxt := 137) rfl rfl rfl (fun c134 => ?_) (fun c134 => ?_)
        · refine jt_go jm_m162 86 3 (f' := (146, [(7, .inl (nI 0)), (6, .inl (nI (sp_toc g c))), (5, .inl (nI (min (sp_ap (g (38 + 5 * c)) (sp_goal g c)) (sp_pace (g (36 + 5 * c)) (g (37 + 5 * c)) (g 2))))), (4, .inl (nI (sp_goal g c))), (3, .inl (nI (g (38 + 5 * c)))), (0, .inr (.inr (5, a, 0))), (1, .inl (nI c)), (2, .inl (nI 0))], [.inl (nI 0)], h2)) (P := True) rfl trivial ?_
          refine jt_nifeq jm_m162 89 (by omega) (tgt := 158) (nxt := 149) rfl rfl rfl (fun c146 => ?_) (fun c146 => ?_)
          · refine jt_go jm_m162 95 1 (f' := (160, [(7, .inl (nI 0)), (6, .inl (nI (sp_toc g c))), (5, .inl (nI (min (sp_ap (g (38 + 5 * c)) (sp_goal g c)) (sp_pace (g (36 + 5 * c)) (g (37 + 5 * c)) (g 2))))), (4, .inl (nI (sp_goal g c))), (3, .inl (nI (g (38 + 5 * c)))), (0, .inr (.inr (5, a, 0))), (1, .inl (nI c)), (2, .inl (nI 0))], [.inl (nI 0)], h2)) (P := True) rfl trivial ?_
            refine jt_zret jm_m162 96 rfl (Or.inl rfl) ?_
            refine ⟨jt_lb0 (by rw [sp_gone_at W hc]; exact fun z => z c134.symm), ?_, Fh2⟩
            unfold sp_one
            rw [if_neg (by rw [sp_gone_at W hc]; exact fun z => z c134.symm)]
            exact Rh2
          · exact absurd c146 (by decide)
        · refine jt_go jm_m162 84 2 (f' := (142, [(6, .inl (nI (sp_toc g c))), (5, .inl (nI (min (sp_ap (g (38 + 5 * c)) (sp_goal g c)) (sp_pace (g (36 + 5 * c)) (g (37 + 5 * c)) (g 2))))), (4, .inl (nI (sp_goal g c))), (3, .inl (nI (g (38 + 5 * c)))), (0, .inr (.inr (5, a, 0))), (1, .inl (nI c)), (2, .inl (nI 0))], [.inl (nI 1)], h2)) (P := True) rfl trivial ?_
          refine jt_go jm_m162 87 2 (f' := (146, [(7, .inl (nI 1)), (6, .inl (nI (sp_toc g c))), (5, .inl (nI (min (sp_ap (g (38 + 5 * c)) (sp_goal g c)) (sp_pace (g (36 + 5 * c)) (g (37 + 5 * c)) (g 2))))), (4, .inl (nI (sp_goal g c))), (3, .inl (nI (g (38 + 5 * c)))), (0, .inr (.inr (5, a, 0))), (1, .inl (nI c)), (2, .inl (nI 0))], [.inl (nI 1)], h2)) (P := True) rfl trivial ?_
          refine jt_nifeq jm_m162 89 (by omega) (tgt := 158) (nxt := 149) rfl rfl rfl (fun c146 => ?_) (fun c146 => ?_)
          · exact absurd c146 (by decide)
          · refine jt_go jm_m162 90 3 (f' := (152, [(7, .inl (nI 1)), (6, .inl (nI (sp_toc g c))), (5, .inl (nI (min (sp_ap (g (38 + 5 * c)) (sp_goal g c)) (sp_pace (g (36 + 5 * c)) (g (37 + 5 * c)) (g 2))))), (4, .inl (nI (sp_goal g c))), (3, .inl (nI (g (38 + 5 * c)))), (0, .inr (.inr (5, a, 0))), (1, .inl (nI c)), (2, .inl (nI 0))], [.inl (nI (g (38 + 5 * c))), .inl (nI c), .inr (.inr (5, a, 0))], h2)) (P := True) rfl trivial ?_
            refine jt_callp (w := .inl (nI (sp_sd (g (38 + 5 * c))))) jm_m162 93 (mi' := 154) (as := [.inl (nI (g (38 + 5 * c)))]) (rest := [.inl (nI c), .inr (.inr (5, a, 0))]) (nxt := 155) rfl rfl jm_m154 rfl rfl (tb_sideOf (by omega)) ?_
            have bq8 := sp_sd_le (g (38 + 5 * c))
            refine jt_call jm_m162 94 (mi' := 161) (as := [.inr (.inr (5, a, 0)), .inl (nI c), .inl (nI (sp_sd (g (38 + 5 * c))))]) (rest := []) (nxt := 158) rfl rfl jm_m161 rfl rfl (tb_pass Rh2 Wg hcg (sp_sd_le _)) ?_
            rintro u h9 ⟨rfl, Rh9, Fh9⟩
            show jt_T 162 (158, [(7, .inl (nI 1)), (6, .inl (nI (sp_toc g c))), (5, .inl (nI (min (sp_ap (g (38 + 5 * c)) (sp_goal g c)) (sp_pace (g (36 + 5 * c)) (g (37 + 5 * c)) (g 2))))), (4, .inl (nI (sp_goal g c))), (3, .inl (nI (g (38 + 5 * c)))), (0, .inr (.inr (5, a, 0))), (1, .inl (nI c)), (2, .inl (nI 0))], [], h9) _
            have Fh9 := jg_fr_tr Fh2 Fh9
            refine jt_go jm_m162 95 1 (f' := (160, [(7, .inl (nI 1)), (6, .inl (nI (sp_toc g c))), (5, .inl (nI (min (sp_ap (g (38 + 5 * c)) (sp_goal g c)) (sp_pace (g (36 + 5 * c)) (g (37 + 5 * c)) (g 2))))), (4, .inl (nI (sp_goal g c))), (3, .inl (nI (g (38 + 5 * c)))), (0, .inr (.inr (5, a, 0))), (1, .inl (nI c)), (2, .inl (nI 0))], [.inl (nI 1)], h9)) (P := True) rfl trivial ?_
            refine jt_zret jm_m162 96 rfl (Or.inr rfl) ?_
            refine ⟨jt_lb1 (by rw [sp_gone_at W hc]; exact fun z => c134 z.symm), ?_, Fh9⟩
            unfold sp_one
            rw [if_pos (by rw [sp_gone_at W hc]; exact fun z => c134 z.symm)]
            exact Rh9
      · refine jt_go jm_m162 45 4 (f' := (81, [(6, .inl (nI (sp_toc g c))), (5, .inl (nI (min (sp_ap (g (38 + 5 * c)) (sp_goal g c)) (sp_pace (g (36 + 5 * c)) (g (37 + 5 * c)) (g 2))))), (4, .inl (nI (sp_goal g c))), (3, .inl (nI (g (38 + 5 * c)))), (0, .inr (.inr (5, a, 0))), (1, .inl (nI c)), (2, .inl (nI 0))], [.inl ((nI 4) + (nI (sp_toc g c))), .inr (.inr (5, a, 0))], h1)) (P := True) rfl trivial ?_
        refine jt_ti (show ((nI 4) + (nI (sp_toc g c))) = nI (4 + sp_toc g c) from nI_add _ _) ?_
        refine jt_go jm_m162 49 1 (f' := (82, [(6, .inl (nI (sp_toc g c))), (5, .inl (nI (min (sp_ap (g (38 + 5 * c)) (sp_goal g c)) (sp_pace (g (36 + 5 * c)) (g (37 + 5 * c)) (g 2))))), (4, .inl (nI (sp_goal g c))), (3, .inl (nI (g (38 + 5 * c)))), (0, .inr (.inr (5, a, 0))), (1, .inl (nI c)), (2, .inl (nI 0))], [.inl (h1 (5, a, 0) (nI (4 + sp_toc g c)).toNatClampNeg)], h1)) (P := vp_in (nI (4 + sp_toc g c)) 78 ∧ True) rfl ⟨(vp_in_nI (by omega) (by decide)), trivial⟩ ?_
        refine jt_ti (show (h1 (5, a, 0) (nI (4 + sp_toc g c)).toNatClampNeg) = nI (gh1 (4 + sp_toc g c)) from jg_get Rh1 (k := 4 + sp_toc g c) (nI_clamp (by omega)) (by omega)) ?_
        have bf : gh1 (4 + sp_toc g c) ≤ 9 := by rw [egh1, sp_up_ne (by omega)]; exact jw_fish W bs
        refine jt_nifle jm_m162 50 (by omega) (tgt := 95) (nxt := 85) rfl rfl rfl (fun c82 => ?_) (fun c82 => ?_)
        · have e95 : gh1 = sp_move g c := by rw [egh1]; unfold sp_move; rw [if_neg c73]; unfold sp_eat; rw [← egh1, if_neg (by omega)]
          rw [e95] at Rh1
          refine jt_go jm_m162 60 3 (f' := (98, [(6, .inl (nI (sp_toc g c))), (5, .inl (nI (min (sp_ap (g (38 + 5 * c)) (sp_goal g c)) (sp_pace (g (36 + 5 * c)) (g (37 + 5 * c)) (g 2))))), (4, .inl (nI (sp_goal g c))), (3, .inl (nI (g (38 + 5 * c)))), (0, .inr (.inr (5, a, 0))), (1, .inl (nI c)), (2, .inl (nI 0))], [.inl (nI 3), .inl (nI c), .inr (.inr (5, a, 0))], h1)) (P := True) rfl trivial ?_
          refine jt_callp (w := .inl (nI (39 + 5 * c))) jm_m162 63 (mi' := 147) (as := [.inl (nI c), .inl (nI 3)]) (rest := [.inr (.inr (5, a, 0))]) (nxt := 101) rfl rfl jm_m147 rfl rfl (tb_ofC (k := 39 + 5 * c) (by omega)) ?_
          refine jt_go jm_m162 64 4 (f' := (106, [(6, .inl (nI (sp_toc g c))), (5, .inl (nI (min (sp_ap (g (38 + 5 * c)) (sp_goal g c)) (sp_pace (g (36 + 5 * c)) (g (37 + 5 * c)) (g 2))))), (4, .inl (nI (sp_goal g c))), (3, .inl (nI (g (38 + 5 * c)))), (0, .inr (.inr (5, a, 0))), (1, .inl (nI c)), (2, .inl (nI 0))], [.inl (nI 3), .inl (nI c), .inr (.inr (5, a, 0)), .inl (nI 99), .inl (nI (39 + 5 * c)), .inr (.inr (5, a, 0))], h1)) (P := True) rfl trivial ?_
          refine jt_callp (w := .inl (nI (39 + 5 * c))) jm_m162 68 (mi' := 147) (as := [.inl (nI c), .inl (nI 3)]) (rest := [.inr (.inr (5, a, 0)), .inl (nI 99), .inl (nI (39 + 5 * c)), .inr (.inr (5, a, 0))]) (nxt := 109) rfl rfl jm_m147 rfl rfl (tb_ofC (k := 39 + 5 * c) (by omega)) ?_
          refine jt_go jm_m162 69 1 (f' := (110, [(6, .inl (nI (sp_toc g c))), (5, .inl (nI (min (sp_ap (g (38 + 5 * c)) (sp_goal g c)) (sp_pace (g (36 + 5 * c)) (g (37 + 5 * c)) (g 2))))), (4, .inl (nI (sp_goal g c))), (3, .inl (nI (g (38 + 5 * c)))), (0, .inr (.inr (5, a, 0))), (1, .inl (nI c)), (2, .inl (nI 0))], [.inl (h1 (5, a, 0) (nI (39 + 5 * c)).toNatClampNeg), .inl (nI 99), .inl (nI (39 + 5 * c)), .inr (.inr (5, a, 0))], h1)) (P := vp_in (nI (39 + 5 * c)) 78 ∧ True) rfl ⟨(vp_in_nI (by omega) (by decide)), trivial⟩ ?_
          refine jt_ti (show (h1 (5, a, 0) (nI (39 + 5 * c)).toNatClampNeg) = nI ((sp_move g c) (39 + 5 * c)) from jg_get Rh1 (k := 39 + 5 * c) (nI_clamp (by omega)) (by omega)) ?_
          have bq9 := jw_hair Wm (c := c) (by omega)
          refine jt_go jm_m162 70 3 (f' := (113, [(6, .inl (nI (sp_toc g c))), (5, .inl (nI (min (sp_ap (g (38 + 5 * c)) (sp_goal g c)) (sp_pace (g (36 + 5 * c)) (g (37 + 5 * c)) (g 2))))), (4, .inl (nI (sp_goal g c))), (3, .inl (nI (g (38 + 5 * c)))), (0, .inr (.inr (5, a, 0))), (1, .inl (nI c)), (2, .inl (nI 0))], [.inl (nI 0), .inl (nI c), .inr (.inr (5, a, 0)), .inl (nI ((sp_move g c) (39 + 5 * c))), .inl (nI 99), .inl (nI (39 + 5 * c)), .inr (.inr (5, a, 0))], h1)) (P := True) rfl trivial ?_
          refine jt_callp (w := .inl (nI (36 + 5 * c))) jm_m162 73 (mi' := 147) (as := [.inl (nI c), .inl (nI 0)]) (rest := [.inr (.inr (5, a, 0)), .inl (nI ((sp_move g c) (39 + 5 * c))), .inl (nI 99), .inl (nI (39 + 5 * c)), .inr (.inr (5, a, 0))]) (nxt := 116) rfl rfl jm_m147 rfl rfl (tb_ofC (k := 36 + 5 * c) (by omega)) ?_
          refine jt_go jm_m162 74 1 (f' := (117, [(6, .inl (nI (sp_toc g c))), (5, .inl (nI (min (sp_ap (g (38 + 5 * c)) (sp_goal g c)) (sp_pace (g (36 + 5 * c)) (g (37 + 5 * c)) (g 2))))), (4, .inl (nI (sp_goal g c))), (3, .inl (nI (g (38 + 5 * c)))), (0, .inr (.inr (5, a, 0))), (1, .inl (nI c)), (2, .inl (nI 0))], [.inl (h1 (5, a, 0) (nI (36 + 5 * c)).toNatClampNeg), .inl (nI ((sp_move g c) (39 + 5 * c))), .inl (nI 99), .inl (nI (39 + 5 * c)), .inr (.inr (5, a, 0))], h1)) (P := vp_in (nI (36 + 5 * c)) 78 ∧ True) rfl ⟨(vp_in_nI (by omega) (by decide)), trivial⟩ ?_
          refine jt_ti (show (h1 (5, a, 0) (nI (36 + 5 * c)).toNatClampNeg) = nI ((sp_move g c) (36 + 5 * c)) from jg_get Rh1 (k := 36 + 5 * c) (nI_clamp (by omega)) (by omega)) ?_
          have bq10 := jw_kind Wm (c := c) (by omega)
          refine jt_callp (w := .inl (nI (sp_grow ((sp_move g c) (36 + 5 * c))))) jm_m162 75 (mi' := 159) (as := [.inl (nI ((sp_move g c) (36 + 5 * c)))]) (rest := [.inl (nI ((sp_move g c) (39 + 5 * c))), .inl (nI 99), .inl (nI (39 + 5 * c)), .inr (.inr (5, a, 0))]) (nxt := 120) rfl rfl jm_m159 rfl rfl (tb_grow (by omega)) ?_
          have bgr := sp_grow_le ((sp_move g c) (36 + 5 * c))
          refine jt_go jm_m162 76 1 (f' := (121, [(6, .inl (nI (sp_toc g c))), (5, .inl (nI (min (sp_ap (g (38 + 5 * c)) (sp_goal g c)) (sp_pace (g (36 + 5 * c)) (g (37 + 5 * c)) (g 2))))), (4, .inl (nI (sp_goal g c))), (3, .inl (nI (g (38 + 5 * c)))), (0, .inr (.inr (5, a, 0))), (1, .inl (nI c)), (2, .inl (nI 0))], [.inl ((nI ((sp_move g c) (39 + 5 * c))) + (nI (sp_grow ((sp_move g c) (36 + 5 * c))))), .inl (nI 99), .inl (nI (39 + 5 * c)), .inr (.inr (5, a, 0))], h1)) (P := True) rfl trivial ?_
          refine jt_ti (show ((nI ((sp_move g c) (39 + 5 * c))) + (nI (sp_grow ((sp_move g c) (36 + 5 * c))))) = nI ((sp_move g c) (39 + 5 * c) + (sp_grow ((sp_move g c) (36 + 5 * c)))) from nI_add _ _) ?_
          refine jt_callp (w := .inl (nI (min 99 ((sp_move g c) (39 + 5 * c) + (sp_grow ((sp_move g c) (36 + 5 * c))))))) jm_m162 77 (mi' := 144) (as := [.inl (nI 99), .inl (nI ((sp_move g c) (39 + 5 * c) + (sp_grow ((sp_move g c) (36 + 5 * c)))))]) (rest := [.inl (nI (39 + 5 * c)), .inr (.inr (5, a, 0))]) (nxt := 124) rfl rfl jm_m144 rfl rfl (tb_least (by omega) (by omega)) ?_
          refine jt_goM jm_m162 78 1 (pc' := 125) (L' := [(6, .inl (nI (sp_toc g c))), (5, .inl (nI (min (sp_ap (g (38 + 5 * c)) (sp_goal g c)) (sp_pace (g (36 + 5 * c)) (g (37 + 5 * c)) (g 2))))), (4, .inl (nI (sp_goal g c))), (3, .inl (nI (g (38 + 5 * c)))), (0, .inr (.inr (5, a, 0))), (1, .inl (nI c)), (2, .inl (nI 0))]) (st' := []) (m' := jm_set h1 (5, a, 0) (upd (h1 (5, a, 0)) (nI (39 + 5 * c)).toNatClampNeg (nI (min 99 ((sp_move g c) (39 + 5 * c) + (sp_grow ((sp_move g c) (36 + 5 * c)))))))) (P := vp_in (nI (39 + 5 * c)) 78 ∧ True) rfl ⟨(vp_in_nI (by omega) (by decide)), trivial⟩ (fun h3 eh3 => ?_)
          have Fh3 : jg_fr a h h3 := by rw [eh3]; exact jg_fr_set Fh1
          obtain ⟨gh3, egh3⟩ : ∃ y, y = sp_up (sp_move g c) (39 + 5 * c) (min 99 ((sp_move g c) (39 + 5 * c) + (sp_grow ((sp_move g c) (36 + 5 * c))))) := ⟨_, rfl⟩
          have Rh3 : jg_rel h3 a gh3 := by rw [eh3, egh3]; exact jg_set Rh1 (k := 39 + 5 * c) (w := min 99 ((sp_move g c) (39 + 5 * c) + (sp_grow ((sp_move g c) (36 + 5 * c))))) (nI_clamp (by omega)) rfl
          have eg : gh3 = sp_gone g c false := by rw [egh3]; rfl
          rw [eg] at Rh3
          have Wg := jw_gone (kept := false) W hc
          have hcg : c < sp_gone g c false 0 := by rw [sp_gone_ne W hc (by omega) (by omega) (by omega)]; exact hc
          refine jt_go jm_m162 79 1 (f' := (127, [(6, .inl (nI (sp_toc g c))), (5, .inl (nI (min (sp_ap (g (38 + 5 * c)) (sp_goal g c)) (sp_pace (g (36 + 5 * c)) (g (37 + 5 * c)) (g 2))))), (4, .inl (nI (sp_goal g c))), (3, .inl (nI (g (38 + 5 * c)))), (0, .inr (.inr (5, a, 0))), (1, .inl (nI c)), (2, .inl (nI 0))], [.inl (nI (sp_toc g c))], h3)) (P := True) rfl trivial ?_
          refine jt_callp (w := .inl (nI (sp_sd (sp_toc g c)))) jm_m162 80 (mi' := 154) (as := [.inl (nI (sp_toc g c))]) (rest := []) (nxt := 130) rfl rfl jm_m154 rfl rfl (tb_sideOf (by omega)) ?_
          have bq11 := sp_sd_le (sp_toc g c)
          refine jt_go jm_m162 81 1 (f' := (131, [(6, .inl (nI (sp_toc g c))), (5, .inl (nI (min (sp_ap (g (38 + 5 * c)) (sp_goal g c)) (sp_pace (g (36 + 5 * c)) (g (37 + 5 * c)) (g 2))))), (4, .inl (nI (sp_goal g c))), (3, .inl (nI (g (38 + 5 * c)))), (0, .inr (.inr (5, a, 0))), (1, .inl (nI c)), (2, .inl (nI 0))], [.inl (nI (g (38 + 5 * c))), .inl (nI (sp_sd (sp_toc g c)))], h3)) (P := True) rfl trivial ?_
          refine jt_callp (w := .inl (nI (sp_sd (g (38 + 5 * c))))) jm_m162 82 (mi' := 154) (as := [.inl (nI (g (38 + 5 * c)))]) (rest := [.inl (nI (sp_sd (sp_toc g c)))]) (nxt := 134) rfl rfl jm_m154 rfl rfl (tb_sideOf (by omega)) ?_
          have bq12 := sp_sd_le (g (38 + 5 * c))
          refine jt_niceq jm_m162 83 (a := sp_sd (sp_toc g c)) (b := sp_sd (g (38 + 5 * c))) (by omega) (by omega) (tgt := 141) (nxt := 137) rfl rfl rfl (fun c134 => ?_) (fun c134 => ?_)
          · refine jt_go jm_m162 86 3 (f' := (146, [(7, .inl (nI 0)), (6, .inl (nI (sp_toc g c))), (5, .inl (nI (min (sp_ap (g (38 + 5 * c)) (sp_goal g c)) (sp_pace (g (36 + 5 * c)) (g (37 + 5 * c)) (g 2))))), (4, .inl (nI (sp_goal g c))), (3, .inl (nI (g (38 + 5 * c)))), (0, .inr (.inr (5, a, 0))), (1, .inl (nI c)), (2, .inl (nI 0))], [.inl (nI 0)], h3)) (P := True) rfl trivial ?_
            refine jt_nifeq jm_m162 89 (by omega) (tgt := 158) (nxt := 149) rfl rfl rfl (fun c146 => ?_) (fun c146 => ?_)
            · refine jt_go jm_m162 95 1 (f' := (160, [(7, .inl (nI 0)), (6, .inl (nI (sp_toc g c))), (5, .inl (nI (min (sp_ap (g (38 + 5 * c)) (sp_goal g c)) (sp_pace (g (36 + 5 * c)) (g (37 + 5 * c)) (g 2))))), (4, .inl (nI (sp_goal g c))), (3, .inl (nI (g (38 + 5 * c)))), (0, .inr (.inr (5, a, 0))), (1, .inl (nI c)), (2, .inl (nI 0))], [.inl (nI 0)], h3)) (P := True) rfl trivial ?_
              refine jt_zret jm_m162 96 rfl (Or.inl rfl) ?_
              refine ⟨jt_lb0 (by rw [sp_gone_at W hc]; exact fun z => z c134.symm), ?_, Fh3⟩
              unfold sp_one
              rw [if_neg (by rw [sp_gone_at W hc]; exact fun z => z c134.symm)]
              exact Rh3
            · exact absurd c146 (by decide)
          · refine jt_go jm_m162 84 2 (f' := (142, [(6, .inl (nI (sp_toc g c))), (5, .inl (nI (min (sp_ap (g (38 + 5 * c)) (sp_goal g c)) (sp_pace (g (36 + 5 * c)) (g (37 + 5 * c)) (g 2))))), (4, .inl (nI (sp_goal g c))), (3, .inl (nI (g (38 + 5 * c)))), (0, .inr (.inr (5, a, 0))), (1, .inl (nI c)), (2, .inl (nI 0))], [.inl (nI 1)], h3)) (P := True) rfl trivial ?_
            refine jt_go jm_m162 87 2 (f' := (146, [(7, .inl (nI 1)), (6, .inl (nI (sp_toc g c))), (5, .inl (nI (min (sp_ap (g (38 + 5 * c)) (sp_goal g c)) (sp_pace (g (36 + 5 * c)) (g (37 + 5 * c)) (g 2))))), (4, .inl (nI (sp_goal g c))), (3, .inl (nI (g (38 + 5 * c)))), (0, .inr (.inr (5, a, 0))), (1, .inl (nI c)), (2, .inl (nI 0))], [.inl (nI 1)], h3)) (P := True) rfl trivial ?_
            refine jt_nifeq jm_m162 89 (by omega) (tgt := 158) (nxt := 149) rfl rfl rfl (fun c146 => ?_) (fun c146 => ?_)
            · exact absurd c146 (by decide)
            · refine jt_go jm_m162 90 3 (f' := (152, [(7, .inl (nI 1)), (6, .inl (nI (sp_toc g c))), (5, .inl (nI (min (sp_ap (g (38 + 5 * c)) (sp_goal g c)) (sp_pace (g (36 + 5 * c)) (g (37 + 5 * c)) (g 2))))), (4, .inl (nI (sp_goal g c))), (3, .inl (nI (g (38 + 5 * c)))), (0, .inr (.inr (5, a, 0))), (1, .inl (nI c)), (2, .inl (nI 0))], [.inl (nI (g (38 + 5 * c))), .inl (nI c), .inr (.inr (5, a, 0))], h3)) (P := True) rfl trivial ?_
              refine jt_callp (w := .inl (nI (sp_sd (g (38 + 5 * c))))) jm_m162 93 (mi' := 154) (as := [.inl (nI (g (38 + 5 * c)))]) (rest := [.inl (nI c), .inr (.inr (5, a, 0))]) (nxt := 155) rfl rfl jm_m154 rfl rfl (tb_sideOf (by omega)) ?_
              have bq13 := sp_sd_le (g (38 + 5 * c))
              refine jt_call jm_m162 94 (mi' := 161) (as := [.inr (.inr (5, a, 0)), .inl (nI c), .inl (nI (sp_sd (g (38 + 5 * c))))]) (rest := []) (nxt := 158) rfl rfl jm_m161 rfl rfl (tb_pass Rh3 Wg hcg (sp_sd_le _)) ?_
              rintro u h9 ⟨rfl, Rh9, Fh9⟩
              show jt_T 162 (158, [(7, .inl (nI 1)), (6, .inl (nI (sp_toc g c))), (5, .inl (nI (min (sp_ap (g (38 + 5 * c)) (sp_goal g c)) (sp_pace (g (36 + 5 * c)) (g (37 + 5 * c)) (g 2))))), (4, .inl (nI (sp_goal g c))), (3, .inl (nI (g (38 + 5 * c)))), (0, .inr (.inr (5, a, 0))), (1, .inl (nI c)), (2, .inl (nI 0))], [], h9) _
              have Fh9 := jg_fr_tr Fh3 Fh9
              refine jt_go jm_m162 95 1 (f' := (160, [(7, .inl (nI 1)), (6, .inl (nI (sp_toc g c))), (5, .inl (nI (min (sp_ap (g (38 + 5 * c)) (sp_goal g c)) (sp_pace (g (36 + 5 * c)) (g (37 + 5 * c)) (g 2))))), (4, .inl (nI (sp_goal g c))), (3, .inl (nI (g (38 + 5 * c)))), (0, .inr (.inr (5, a, 0))), (1, .inl (nI c)), (2, .inl (nI 0))], [.inl (nI 1)], h9)) (P := True) rfl trivial ?_
              refine jt_zret jm_m162 96 rfl (Or.inr rfl) ?_
              refine ⟨jt_lb1 (by rw [sp_gone_at W hc]; exact fun z => c134 z.symm), ?_, Fh9⟩
              unfold sp_one
              rw [if_pos (by rw [sp_gone_at W hc]; exact fun z => c134 z.symm)]
              exact Rh9
        · refine jt_go jm_m162 51 4 (f' := (90, [(6, .inl (nI (sp_toc g c))), (5, .inl (nI (min (sp_ap (g (38 + 5 * c)) (sp_goal g c)) (sp_pace (g (36 + 5 * c)) (g (37 + 5 * c)) (g 2))))), (4, .inl (nI (sp_goal g c))), (3, .inl (nI (g (38 + 5 * c)))), (0, .inr (.inr (5, a, 0))), (1, .inl (nI c)), (2, .inl (nI 0))], [.inl ((nI 4) + (nI (sp_toc g c))), .inr (.inr (5, a, 0))], h1)) (P := True) rfl trivial ?_
          refine jt_ti (show ((nI 4) + (nI (sp_toc g c))) = nI (4 + sp_toc g c) from nI_add _ _) ?_
          refine jt_go jm_m162 55 2 (f' := (92, [(6, .inl (nI (sp_toc g c))), (5, .inl (nI (min (sp_ap (g (38 + 5 * c)) (sp_goal g c)) (sp_pace (g (36 + 5 * c)) (g (37 + 5 * c)) (g 2))))), (4, .inl (nI (sp_goal g c))), (3, .inl (nI (g (38 + 5 * c)))), (0, .inr (.inr (5, a, 0))), (1, .inl (nI c)), (2, .inl (nI 0))], [.inl (h1 (5, a, 0) (nI (4 + sp_toc g c)).toNatClampNeg), .inl (nI (4 + sp_toc g c)), .inr (.inr (5, a, 0))], h1)) (P := vp_in (nI (4 + sp_toc g c)) 78 ∧ True) rfl ⟨(vp_in_nI (by omega) (by decide)), trivial⟩ ?_
          refine jt_ti (show (h1 (5, a, 0) (nI (4 + sp_toc g c)).toNatClampNeg) = nI (gh1 (4 + sp_toc g c)) from jg_get Rh1 (k := 4 + sp_toc g c) (nI_clamp (by omega)) (by omega)) ?_
          refine jt_go jm_m162 57 2 (f' := (94, [(6, .inl (nI (sp_toc g c))), (5, .inl (nI (min (sp_ap (g (38 + 5 * c)) (sp_goal g c)) (sp_pace (g (36 + 5 * c)) (g (37 + 5 * c)) (g 2))))), (4, .inl (nI (sp_goal g c))), (3, .inl (nI (g (38 + 5 * c)))), (0, .inr (.inr (5, a, 0))), (1, .inl (nI c)), (2, .inl (nI 0))], [.inl ((nI (gh1 (4 + sp_toc g c))) - (nI 1)), .inl (nI (4 + sp_toc g c)), .inr (.inr (5, a, 0))], h1)) (P := True) rfl trivial ?_
          refine jt_ti (show ((nI (gh1 (4 + sp_toc g c))) - (nI 1)) = nI (gh1 (4 + sp_toc g c) - 1) from nI_subN (by omega)) ?_
          refine jt_goM jm_m162 59 1 (pc' := 95) (L' := [(6, .inl (nI (sp_toc g c))), (5, .inl (nI (min (sp_ap (g (38 + 5 * c)) (sp_goal g c)) (sp_pace (g (36 + 5 * c)) (g (37 + 5 * c)) (g 2))))), (4, .inl (nI (sp_goal g c))), (3, .inl (nI (g (38 + 5 * c)))), (0, .inr (.inr (5, a, 0))), (1, .inl (nI c)), (2, .inl (nI 0))]) (st' := []) (m' := jm_set h1 (5, a, 0) (upd (h1 (5, a, 0)) (nI (4 + sp_toc g c)).toNatClampNeg (nI (gh1 (4 + sp_toc g c) - 1)))) (P := vp_in (nI (4 + sp_toc g c)) 78 ∧ True) rfl ⟨(vp_in_nI (by omega) (by decide)), trivial⟩ (fun h4 eh4 => ?_)
          have Fh4 : jg_fr a h h4 := by rw [eh4]; exact jg_fr_set Fh1
          obtain ⟨gh4, egh4⟩ : ∃ y, y = sp_up gh1 (4 + sp_toc g c) (gh1 (4 + sp_toc g c) - 1) := ⟨_, rfl⟩
          have Rh4 : jg_rel h4 a gh4 := by rw [eh4, egh4]; exact jg_set Rh1 (k := 4 + sp_toc g c) (w := gh1 (4 + sp_toc g c) - 1) (nI_clamp (by omega)) rfl
          have e95 : gh4 = sp_move g c := by rw [egh4]; unfold sp_move; rw [if_neg c73]; unfold sp_eat; rw [← egh1, if_pos c82]
          rw [e95] at Rh4
          refine jt_go jm_m162 60 3 (f' := (98, [(6, .inl (nI (sp_toc g c))), (5, .inl (nI (min (sp_ap (g (38 + 5 * c)) (sp_goal g c)) (sp_pace (g (36 + 5 * c)) (g (37 + 5 * c)) (g 2))))), (4, .inl (nI (sp_goal g c))), (3, .inl (nI (g (38 + 5 * c)))), (0, .inr (.inr (5, a, 0))), (1, .inl (nI c)), (2, .inl (nI 0))], [.inl (nI 3), .inl (nI c), .inr (.inr (5, a, 0))], h4)) (P := True) rfl trivial ?_
          refine jt_callp (w := .inl (nI (39 + 5 * c))) jm_m162 63 (mi' := 147) (as := [.inl (nI c), .inl (nI 3)]) (rest := [.inr (.inr (5, a, 0))]) (nxt := 101) rfl rfl jm_m147 rfl rfl (tb_ofC (k := 39 + 5 * c) (by omega)) ?_
          refine jt_go jm_m162 64 4 (f' := (106, [(6, .inl (nI (sp_toc g c))), (5, .inl (nI (min (sp_ap (g (38 + 5 * c)) (sp_goal g c)) (sp_pace (g (36 + 5 * c)) (g (37 + 5 * c)) (g 2))))), (4, .inl (nI (sp_goal g c))), (3, .inl (nI (g (38 + 5 * c)))), (0, .inr (.inr (5, a, 0))), (1, .inl (nI c)), (2, .inl (nI 0))], [.inl (nI 3), .inl (nI c), .inr (.inr (5, a, 0)), .inl (nI 99), .inl (nI (39 + 5 * c)), .inr (.inr (5, a, 0))], h4)) (P := True) rfl trivial ?_
          refine jt_callp (w := .inl (nI (39 + 5 * c))) jm_m162 68 (mi' := 147) (as := [.inl (nI c), .inl (nI 3)]) (rest := [.inr (.inr (5, a, 0)), .inl (nI 99), .inl (nI (39 + 5 * c)), .inr (.inr (5, a, 0))]) (nxt := 109) rfl rfl jm_m147 rfl rfl (tb_ofC (k := 39 + 5 * c) (by omega)) ?_
          refine jt_go jm_m162 69 1 (f' := (110, [(6, .inl (nI (sp_toc g c))), (5, .inl (nI (min (sp_ap (g (38 + 5 * c)) (sp_goal g c)) (sp_pace (g (36 + 5 * c)) (g (37 + 5 * c)) (g 2))))), (4, .inl (nI (sp_goal g c))), (3, .inl (nI (g (38 + 5 * c)))), (0, .inr (.inr (5, a, 0))), (1, .inl (nI c)), (2, .inl (nI 0))], [.inl (h4 (5, a, 0) (nI (39 + 5 * c)).toNatClampNeg), .inl (nI 99), .inl (nI (39 + 5 * c)), .inr (.inr (5, a, 0))], h4)) (P := vp_in (nI (39 + 5 * c)) 78 ∧ True) rfl ⟨(vp_in_nI (by omega) (by decide)), trivial⟩ ?_
          refine jt_ti (show (h4 (5, a, 0) (nI (39 + 5 * c)).toNatClampNeg) = nI ((sp_move g c) (39 + 5 * c)) from jg_get Rh4 (k := 39 + 5 * c) (nI_clamp (by omega)) (by omega)) ?_
          have bq14 := jw_hair Wm (c := c) (by omega)
          refine jt_go jm_m162 70 3 (f' := (113, [(6, .inl (nI (sp_toc g c))), (5, .inl (nI (min (sp_ap (g (38 + 5 * c)) (sp_goal g c)) (sp_pace (g (36 + 5 * c)) (g (37 + 5 * c)) (g 2))))), (4, .inl (nI (sp_goal g c))), (3, .inl (nI (g (38 + 5 * c)))), (0, .inr (.inr (5, a, 0))), (1, .inl (nI c)), (2, .inl (nI 0))], [.inl (nI 0), .inl (nI c), .inr (.inr (5, a, 0)), .inl (nI ((sp_move g c) (39 + 5 * c))), .inl (nI 99), .inl (nI (39 + 5 * c)), .inr (.inr (5, a, 0))], h4)) (P := True) rfl trivial ?_
          refine jt_callp (w := .inl (nI (36 + 5 * c))) jm_m162 73 (mi' := 147) (as := [.inl (nI c), .inl (nI 0)]) (rest := [.inr (.inr (5, a, 0)), .inl (nI ((sp_move g c) (39 + 5 * c))), .inl (nI 99), .inl (nI (39 + 5 * c)), .inr (.inr (5, a, 0))]) (nxt := 116) rfl rfl jm_m147 rfl rfl (tb_ofC (k := 36 + 5 * c) (by omega)) ?_
          refine jt_go jm_m162 74 1 (f' := (117, [(6, .inl (nI (sp_toc g c))), (5, .inl (nI (min (sp_ap (g (38 + 5 * c)) (sp_goal g c)) (sp_pace (g (36 + 5 * c)) (g (37 + 5 * c)) (g 2))))), (4, .inl (nI (sp_goal g c))), (3, .inl (nI (g (38 + 5 * c)))), (0, .inr (.inr (5, a, 0))), (1, .inl (nI c)), (2, .inl (nI 0))], [.inl (h4 (5, a, 0) (nI (36 + 5 * c)).toNatClampNeg), .inl (nI ((sp_move g c) (39 + 5 * c))), .inl (nI 99), .inl (nI (39 + 5 * c)), .inr (.inr (5, a, 0))], h4)) (P := vp_in (nI (36 + 5 * c)) 78 ∧ True) rfl ⟨(vp_in_nI (by omega) (by decide)), trivial⟩ ?_
          refine jt_ti (show (h4 (5, a, 0) (nI (36 + 5 * c)).toNatClampNeg) = nI ((sp_move g c) (36 + 5 * c)) from jg_get Rh4 (k := 36 + 5 * c) (nI_clamp (by omega)) (by omega)) ?_
          have bq15 := jw_kind Wm (c := c) (by omega)
          refine jt_callp (w := .inl (nI (sp_grow ((sp_move g c) (36 + 5 * c))))) jm_m162 75 (mi' := 159) (as := [.inl (nI ((sp_move g c) (36 + 5 * c)))]) (rest := [.inl (nI ((sp_move g c) (39 + 5 * c))), .inl (nI 99), .inl (nI (39 + 5 * c)), .inr (.inr (5, a, 0))]) (nxt := 120) rfl rfl jm_m159 rfl rfl (tb_grow (by omega)) ?_
          have bgr := sp_grow_le ((sp_move g c) (36 + 5 * c))
          refine jt_go jm_m162 76 1 (f' := (121, [(6, .inl (nI (sp_toc g c))), (5, .inl (nI (min (sp_ap (g (38 + 5 * c)) (sp_goal g c)) (sp_pace (g (36 + 5 * c)) (g (37 + 5 * c)) (g 2))))), (4, .inl (nI (sp_goal g c))), (3, .inl (nI (g (38 + 5 * c)))), (0, .inr (.inr (5, a, 0))), (1, .inl (nI c)), (2, .inl (nI 0))], [.inl ((nI ((sp_move g c) (39 + 5 * c))) + (nI (sp_grow ((sp_move g c) (36 + 5 * c))))), .inl (nI 99), .inl (nI (39 + 5 * c)), .inr (.inr (5, a, 0))], h4)) (P := True) rfl trivial ?_
          refine jt_ti (show ((nI ((sp_move g c) (39 + 5 * c))) + (nI (sp_grow ((sp_move g c) (36 + 5 * c))))) = nI ((sp_move g c) (39 + 5 * c) + (sp_grow ((sp_move g c) (36 + 5 * c)))) from nI_add _ _) ?_
          refine jt_callp (w := .inl (nI (min 99 ((sp_move g c) (39 + 5 * c) + (sp_grow ((sp_move g c) (36 + 5 * c))))))) jm_m162 77 (mi' := 144) (as := [.inl (nI 99), .inl (nI ((sp_move g c) (39 + 5 * c) + (sp_grow ((sp_move g c) (36 + 5 * c)))))]) (rest := [.inl (nI (39 + 5 * c)), .inr (.inr (5, a, 0))]) (nxt := 124) rfl rfl jm_m144 rfl rfl (tb_least (by omega) (by omega)) ?_
          refine jt_goM jm_m162 78 1 (pc' := 125) (L' := [(6, .inl (nI (sp_toc g c))), (5, .inl (nI (min (sp_ap (g (38 + 5 * c)) (sp_goal g c)) (sp_pace (g (36 + 5 * c)) (g (37 + 5 * c)) (g 2))))), (4, .inl (nI (sp_goal g c))), (3, .inl (nI (g (38 + 5 * c)))), (0, .inr (.inr (5, a, 0))), (1, .inl (nI c)), (2, .inl (nI 0))]) (st' := []) (m' := jm_set h4 (5, a, 0) (upd (h4 (5, a, 0)) (nI (39 + 5 * c)).toNatClampNeg (nI (min 99 ((sp_move g c) (39 + 5 * c) + (sp_grow ((sp_move g c) (36 + 5 * c)))))))) (P := vp_in (nI (39 + 5 * c)) 78 ∧ True) rfl ⟨(vp_in_nI (by omega) (by decide)), trivial⟩ (fun h5 eh5 => ?_)
          have Fh5 : jg_fr a h h5 := by rw [eh5]; exact jg_fr_set Fh4
          obtain ⟨gh5, egh5⟩ : ∃ y, y = sp_up (sp_move g c) (39 + 5 * c) (min 99 ((sp_move g c) (39 + 5 * c) + (sp_grow ((sp_move g c) (36 + 5 * c))))) := ⟨_, rfl⟩
          have Rh5 : jg_rel h5 a gh5 := by rw [eh5, egh5]; exact jg_set Rh4 (k := 39 + 5 * c) (w := min 99 ((sp_move g c) (39 + 5 * c) + (sp_grow ((sp_move g c) (36 + 5 * c))))) (nI_clamp (by omega)) rfl
          have eg : gh5 = sp_gone g c false := by rw [egh5]; rfl
          rw [eg] at Rh5
          have Wg := jw_gone (kept := false) W hc
          have hcg : c < sp_gone g c false 0 := by rw [sp_gone_ne W hc (by omega) (by omega) (by omega)]; exact hc
          refine jt_go jm_m162 79 1 (f' := (127, [(6, .inl (nI (sp_toc g c))), (5, .inl (nI (min (sp_ap (g (38 + 5 * c)) (sp_goal g c)) (sp_pace (g (36 + 5 * c)) (g (37 + 5 * c)) (g 2))))), (4, .inl (nI (sp_goal g c))), (3, .inl (nI (g (38 + 5 * c)))), (0, .inr (.inr (5, a, 0))), (1, .inl (nI c)), (2, .inl (nI 0))], [.inl (nI (sp_toc g c))], h5)) (P := True) rfl trivial ?_
          refine jt_callp (w := .inl (nI (sp_sd (sp_toc g c)))) jm_m162 80 (mi' := 154) (as := [.inl (nI (sp_toc g c))]) (rest := []) (nxt := 130) rfl rfl jm_m154 rfl rfl (tb_sideOf (by omega)) ?_
          have bq16 := sp_sd_le (sp_toc g c)
          refine jt_go jm_m162 81 1 (f' := (131, [(6, .inl (nI (sp_toc g c))), (5, .inl (nI (min (sp_ap (g (38 + 5 * c)) (sp_goal g c)) (sp_pace (g (36 + 5 * c)) (g (37 + 5 * c)) (g 2))))), (4, .inl (nI (sp_goal g c))), (3, .inl (nI (g (38 + 5 * c)))), (0, .inr (.inr (5, a, 0))), (1, .inl (nI c)), (2, .inl (nI 0))], [.inl (nI (g (38 + 5 * c))), .inl (nI (sp_sd (sp_toc g c)))], h5)) (P := True) rfl trivial ?_
          refine jt_callp (w := .inl (nI (sp_sd (g (38 + 5 * c))))) jm_m162 82 (mi' := 154) (as := [.inl (nI (g (38 + 5 * c)))]) (rest := [.inl (nI (sp_sd (sp_toc g c)))]) (nxt := 134) rfl rfl jm_m154 rfl rfl (tb_sideOf (by omega)) ?_
          have bq17 := sp_sd_le (g (38 + 5 * c))
          refine jt_niceq jm_m162 83 (a := sp_sd (sp_toc g c)) (b := sp_sd (g (38 + 5 * c))) (by omega) (by omega) (tgt := 141) (nxt := 137) rfl rfl rfl (fun c134 => ?_) (fun c134 => ?_)
          · refine jt_go jm_m162 86 3 (f' := (146, [(7, .inl (nI 0)), (6, .inl (nI (sp_toc g c))), (5, .inl (nI (min (sp_ap (g (38 + 5 * c)) (sp_goal g c)) (sp_pace (g (36 + 5 * c)) (g (37 + 5 * c)) (g 2))))), (4, .inl (nI (sp_goal g c))), (3, .inl (nI (g (38 + 5 * c)))), (0, .inr (.inr (5, a, 0))), (1, .inl (nI c)), (2, .inl (nI 0))], [.inl (nI 0)], h5)) (P := True) rfl trivial ?_
            refine jt_nifeq jm_m162 89 (by omega) (tgt := 158) (nxt := 149) rfl rfl rfl (fun c146 => ?_) (fun c146 => ?_)
            · refine jt_go jm_m162 95 1 (f' := (160, [(7, .inl (nI 0)), (6, .inl (nI (sp_toc g c))), (5, .inl (nI (min (sp_ap (g (38 + 5 * c)) (sp_goal g c)) (sp_pace (g (36 + 5 * c)) (g (37 + 5 * c)) (g 2))))), (4, .inl (nI (sp_goal g c))), (3, .inl (nI (g (38 + 5 * c)))), (0, .inr (.inr (5, a, 0))), (1, .inl (nI c)), (2, .inl (nI 0))], [.inl (nI 0)], h5)) (P := True) rfl trivial ?_
              refine jt_zret jm_m162 96 rfl (Or.inl rfl) ?_
              refine ⟨jt_lb0 (by rw [sp_gone_at W hc]; exact fun z => z c134.symm), ?_, Fh5⟩
              unfold sp_one
              rw [if_neg (by rw [sp_gone_at W hc]; exact fun z => z c134.symm)]
              exact Rh5
            · exact absurd c146 (by decide)
          · refine jt_go jm_m162 84 2 (f' := (142, [(6, .inl (nI (sp_toc g c))), (5, .inl (nI (min (sp_ap (g (38 + 5 * c)) (sp_goal g c)) (sp_pace (g (36 + 5 * c)) (g (37 + 5 * c)) (g 2))))), (4, .inl (nI (sp_goal g c))), (3, .inl (nI (g (38 + 5 * c)))), (0, .inr (.inr (5, a, 0))), (1, .inl (nI c)), (2, .inl (nI 0))], [.inl (nI 1)], h5)) (P := True) rfl trivial ?_
            refine jt_go jm_m162 87 2 (f' := (146, [(7, .inl (nI 1)), (6, .inl (nI (sp_toc g c))), (5, .inl (nI (min (sp_ap (g (38 + 5 * c)) (sp_goal g c)) (sp_pace (g (36 + 5 * c)) (g (37 + 5 * c)) (g 2))))), (4, .inl (nI (sp_goal g c))), (3, .inl (nI (g (38 + 5 * c)))), (0, .inr (.inr (5, a, 0))), (1, .inl (nI c)), (2, .inl (nI 0))], [.inl (nI 1)], h5)) (P := True) rfl trivial ?_
            refine jt_nifeq jm_m162 89 (by omega) (tgt := 158) (nxt := 149) rfl rfl rfl (fun c146 => ?_) (fun c146 => ?_)
            · exact absurd c146 (by decide)
            · refine jt_go jm_m162 90 3 (f' := (152, [(7, .inl (nI 1)), (6, .inl (nI (sp_toc g c))), (5, .inl (nI (min (sp_ap (g (38 + 5 * c)) (sp_goal g c)) (sp_pace (g (36 + 5 * c)) (g (37 + 5 * c)) (g 2))))), (4, .inl (nI (sp_goal g c))), (3, .inl (nI (g (38 + 5 * c)))), (0, .inr (.inr (5, a, 0))), (1, .inl (nI c)), (2, .inl (nI 0))], [.inl (nI (g (38 + 5 * c))), .inl (nI c), .inr (.inr (5, a, 0))], h5)) (P := True) rfl trivial ?_
              refine jt_callp (w := .inl (nI (sp_sd (g (38 + 5 * c))))) jm_m162 93 (mi' := 154) (as := [.inl (nI (g (38 + 5 * c)))]) (rest := [.inl (nI c), .inr (.inr (5, a, 0))]) (nxt := 155) rfl rfl jm_m154 rfl rfl (tb_sideOf (by omega)) ?_
              have bq18 := sp_sd_le (g (38 + 5 * c))
              refine jt_call jm_m162 94 (mi' := 161) (as := [.inr (.inr (5, a, 0)), .inl (nI c), .inl (nI (sp_sd (g (38 + 5 * c))))]) (rest := []) (nxt := 158) rfl rfl jm_m161 rfl rfl (tb_pass Rh5 Wg hcg (sp_sd_le _)) ?_
              rintro u h9 ⟨rfl, Rh9, Fh9⟩
              show jt_T 162 (158, [(7, .inl (nI 1)), (6, .inl (nI (sp_toc g c))), (5, .inl (nI (min (sp_ap (g (38 + 5 * c)) (sp_goal g c)) (sp_pace (g (36 + 5 * c)) (g (37 + 5 * c)) (g 2))))), (4, .inl (nI (sp_goal g c))), (3, .inl (nI (g (38 + 5 * c)))), (0, .inr (.inr (5, a, 0))), (1, .inl (nI c)), (2, .inl (nI 0))], [], h9) _
              have Fh9 := jg_fr_tr Fh5 Fh9
              refine jt_go jm_m162 95 1 (f' := (160, [(7, .inl (nI 1)), (6, .inl (nI (sp_toc g c))), (5, .inl (nI (min (sp_ap (g (38 + 5 * c)) (sp_goal g c)) (sp_pace (g (36 + 5 * c)) (g (37 + 5 * c)) (g 2))))), (4, .inl (nI (sp_goal g c))), (3, .inl (nI (g (38 + 5 * c)))), (0, .inr (.inr (5, a, 0))), (1, .inl (nI c)), (2, .inl (nI 0))], [.inl (nI 1)], h9)) (P := True) rfl trivial ?_
              refine jt_zret jm_m162 96 rfl (Or.inr rfl) ?_
              refine ⟨jt_lb1 (by rw [sp_gone_at W hc]; exact fun z => c134 z.symm), ?_, Fh9⟩
              unfold sp_one
              rw [if_pos (by rw [sp_gone_at W hc]; exact fun z => c134 z.symm)]
              exact Rh9
    · have bap := sp_ap_l c45
      refine jt_go jm_m162 28 3 (f' := (52, [(5, .inl (nI (min (sp_ap (g (38 + 5 * c)) (sp_goal g c)) (sp_pace (g (36 + 5 * c)) (g (37 + 5 * c)) (g 2))))), (4, .inl (nI (sp_goal g c))), (3, .inl (nI (g (38 + 5 * c)))), (0, .inr (.inr (5, a, 0))), (1, .inl (nI c)), (2, .inl (nI 0))], [.inl ((nI (g (38 + 5 * c))) + (nI (min (sp_ap (g (38 + 5 * c)) (sp_goal g c)) (sp_pace (g (36 + 5 * c)) (g (37 + 5 * c)) (g 2)))))], h)) (P := True) rfl trivial ?_
      refine jt_ti (show ((nI (g (38 + 5 * c))) + (nI (min (sp_ap (g (38 + 5 * c)) (sp_goal g c)) (sp_pace (g (36 + 5 * c)) (g (37 + 5 * c)) (g 2))))) = nI (sp_toc g c) from by rw [nI_add, bap]; exact congrArg nI (show g (38 + 5 * c) + min (sp_goal g c - g (38 + 5 * c)) (sp_pace (g (36 + 5 * c)) (g (37 + 5 * c)) (g 2)) = sp_toc g c from (if_pos c45).symm)) ?_
      refine jt_go jm_m162 31 1 (f' := (59, [(5, .inl (nI (min (sp_ap (g (38 + 5 * c)) (sp_goal g c)) (sp_pace (g (36 + 5 * c)) (g (37 + 5 * c)) (g 2))))), (4, .inl (nI (sp_goal g c))), (3, .inl (nI (g (38 + 5 * c)))), (0, .inr (.inr (5, a, 0))), (1, .inl (nI c)), (2, .inl (nI 0))], [.inl (nI (sp_toc g c))], h)) (P := True) rfl trivial ?_
      refine jt_go jm_m162 35 4 (f' := (64, [(6, .inl (nI (sp_toc g c))), (5, .inl (nI (min (sp_ap (g (38 + 5 * c)) (sp_goal g c)) (sp_pace (g (36 + 5 * c)) (g (37 + 5 * c)) (g 2))))), (4, .inl (nI (sp_goal g c))), (3, .inl (nI (g (38 + 5 * c)))), (0, .inr (.inr (5, a, 0))), (1, .inl (nI c)), (2, .inl (nI 0))], [.inl (nI 2), .inl (nI c), .inr (.inr (5, a, 0))], h)) (P := True) rfl trivial ?_
      refine jt_callp (w := .inl (nI (38 + 5 * c))) jm_m162 39 (mi' := 147) (as := [.inl (nI c), .inl (nI 2)]) (rest := [.inr (.inr (5, a, 0))]) (nxt := 67) rfl rfl jm_m147 rfl rfl (tb_ofC (k := 38 + 5 * c) (by omega)) ?_
      refine jt_goM jm_m162 40 2 (pc' := 70) (L' := [(6, .inl (nI (sp_toc g c))), (5, .inl (nI (min (sp_ap (g (38 + 5 * c)) (sp_goal g c)) (sp_pace (g (36 + 5 * c)) (g (37 + 5 * c)) (g 2))))), (4, .inl (nI (sp_goal g c))), (3, .inl (nI (g (38 + 5 * c)))), (0, .inr (.inr (5, a, 0))), (1, .inl (nI c)), (2, .inl (nI 0))]) (st' := []) (m' := jm_set h (5, a, 0) (upd (h (5, a, 0)) (nI (38 + 5 * c)).toNatClampNeg (nI (sp_toc g c)))) (P := vp_in (nI (38 + 5 * c)) 78 ∧ True) rfl ⟨(vp_in_nI (by omega) (by decide)), trivial⟩ (fun h6 eh6 => ?_)
      have Fh6 : jg_fr a h h6 := by rw [eh6]; exact jg_fr_set jg_fr_rf
      obtain ⟨gh6, egh6⟩ : ∃ y, y = sp_up g (38 + 5 * c) (sp_toc g c) := ⟨_, rfl⟩
      have Rh6 : jg_rel h6 a gh6 := by rw [eh6, egh6]; exact jg_set R (k := 38 + 5 * c) (w := sp_toc g c) (nI_clamp (by omega)) rfl
      refine jt_go jm_m162 42 2 (f' := (73, [(6, .inl (nI (sp_toc g c))), (5, .inl (nI (min (sp_ap (g (38 + 5 * c)) (sp_goal g c)) (sp_pace (g (36 + 5 * c)) (g (37 + 5 * c)) (g 2))))), (4, .inl (nI (sp_goal g c))), (3, .inl (nI (g (38 + 5 * c)))), (0, .inr (.inr (5, a, 0))), (1, .inl (nI c)), (2, .inl (nI 0))], [.inl (nI (g (38 + 5 * c))), .inl (nI (sp_toc g c))], h6)) (P := True) rfl trivial ?_
      refine jt_niceq jm_m162 44 (a := sp_toc g c) (b := g (38 + 5 * c)) (by omega) (by omega) (tgt := 95) (nxt := 76) rfl rfl rfl (fun c73 => ?_) (fun c73 => ?_)
      · have e95 : gh6 = (sp_move g c) := by rw [egh6]; unfold sp_move; rw [if_pos c73]; exact sp_up_self c73
        rw [e95] at Rh6
        refine jt_go jm_m162 60 3 (f' := (98, [(6, .inl (nI (sp_toc g c))), (5, .inl (nI (min (sp_ap (g (38 + 5 * c)) (sp_goal g c)) (sp_pace (g (36 + 5 * c)) (g (37 + 5 * c)) (g 2))))), (4, .inl (nI (sp_goal g c))), (3, .inl (nI (g (38 + 5 * c)))), (0, .inr (.inr (5, a, 0))), (1, .inl (nI c)), (2, .inl (nI 0))], [.inl (nI 3), .inl (nI c), .inr (.inr (5, a, 0))], h6)) (P := True) rfl trivial ?_
        refine jt_callp (w := .inl (nI (39 + 5 * c))) jm_m162 63 (mi' := 147) (as := [.inl (nI c), .inl (nI 3)]) (rest := [.inr (.inr (5, a, 0))]) (nxt := 101) rfl rfl jm_m147 rfl rfl (tb_ofC (k := 39 + 5 * c) (by omega)) ?_
        refine jt_go jm_m162 64 4 (f' := (106, [(6, .inl (nI (sp_toc g c))), (5, .inl (nI (min (sp_ap (g (38 + 5 * c)) (sp_goal g c)) (sp_pace (g (36 + 5 * c)) (g (37 + 5 * c)) (g 2))))), (4, .inl (nI (sp_goal g c))), (3, .inl (nI (g (38 + 5 * c)))), (0, .inr (.inr (5, a, 0))), (1, .inl (nI c)), (2, .inl (nI 0))], [.inl (nI 3), .inl (nI c), .inr (.inr (5, a, 0)), .inl (nI 99), .inl (nI (39 + 5 * c)), .inr (.inr (5, a, 0))], h6)) (P := True) rfl trivial ?_
        refine jt_callp (w := .inl (nI (39 + 5 * c))) jm_m162 68 (mi' := 147) (as := [.inl (nI c), .inl (nI 3)]) (rest := [.inr (.inr (5, a, 0)), .inl (nI 99), .inl (nI (39 + 5 * c)), .inr (.inr (5, a, 0))]) (nxt := 109) rfl rfl jm_m147 rfl rfl (tb_ofC (k := 39 + 5 * c) (by omega)) ?_
        refine jt_go jm_m162 69 1 (f' := (110, [(6, .inl (nI (sp_toc g c))), (5, .inl (nI (min (sp_ap (g (38 + 5 * c)) (sp_goal g c)) (sp_pace (g (36 + 5 * c)) (g (37 + 5 * c)) (g 2))))), (4, .inl (nI (sp_goal g c))), (3, .inl (nI (g (38 + 5 * c)))), (0, .inr (.inr (5, a, 0))), (1, .inl (nI c)), (2, .inl (nI 0))], [.inl (h6 (5, a, 0) (nI (39 + 5 * c)).toNatClampNeg), .inl (nI 99), .inl (nI (39 + 5 * c)), .inr (.inr (5, a, 0))], h6)) (P := vp_in (nI (39 + 5 * c)) 78 ∧ True) rfl ⟨(vp_in_nI (by omega) (by decide)), trivial⟩ ?_
        refine jt_ti (show (h6 (5, a, 0) (nI (39 + 5 * c)).toNatClampNeg) = nI ((sp_move g c) (39 + 5 * c)) from jg_get Rh6 (k := 39 + 5 * c) (nI_clamp (by omega)) (by omega)) ?_
        have bq19 := jw_hair Wm (c := c) (by omega)
        refine jt_go jm_m162 70 3 (f' := (113, [(6, .inl (nI (sp_toc g c))), (5, .inl (nI (min (sp_ap (g (38 + 5 * c)) (sp_goal g c)) (sp_pace (g (36 + 5 * c)) (g (37 + 5 * c)) (g 2))))), (4, .inl (nI (sp_goal g c))), (3, .inl (nI (g (38 + 5 * c)))), (0, .inr (.inr (5, a, 0))), (1, .inl (nI c)), (2, .inl (nI 0))], [.inl (nI 0), .inl (nI c), .inr (.inr (5, a, 0)), .inl (nI ((sp_move g c) (39 + 5 * c))), .inl (nI 99), .inl (nI (39 + 5 * c)), .inr (.inr (5, a, 0))], h6)) (P := True) rfl trivial ?_
        refine jt_callp (w := .inl (nI (36 + 5 * c))) jm_m162 73 (mi' := 147) (as := [.inl (nI c), .inl (nI 0)]) (rest := [.inr (.inr (5, a, 0)), .inl (nI ((sp_move g c) (39 + 5 * c))), .inl (nI 99), .inl (nI (39 + 5 * c)), .inr (.inr (5, a, 0))]) (nxt := 116) rfl rfl jm_m147 rfl rfl (tb_ofC (k := 36 + 5 * c) (by omega)) ?_
        refine jt_go jm_m162 74 1 (f' := (117, [(6, .inl (nI (sp_toc g c))), (5, .inl (nI (min (sp_ap (g (38 + 5 * c)) (sp_goal g c)) (sp_pace (g (36 + 5 * c)) (g (37 + 5 * c)) (g 2))))), (4, .inl (nI (sp_goal g c))), (3, .inl (nI (g (38 + 5 * c)))), (0, .inr (.inr (5, a, 0))), (1, .inl (nI c)), (2, .inl (nI 0))], [.inl (h6 (5, a, 0) (nI (36 + 5 * c)).toNatClampNeg), .inl (nI ((sp_move g c) (39 + 5 * c))), .inl (nI 99), .inl (nI (39 + 5 * c)), .inr (.inr (5, a, 0))], h6)) (P := vp_in (nI (36 + 5 * c)) 78 ∧ True) rfl ⟨(vp_in_nI (by omega) (by decide)), trivial⟩ ?_
        refine jt_ti (show (h6 (5, a, 0) (nI (36 + 5 * c)).toNatClampNeg) = nI ((sp_move g c) (36 + 5 * c)) from jg_get Rh6 (k := 36 + 5 * c) (nI_clamp (by omega)) (by omega)) ?_
        have bq20 := jw_kind Wm (c := c) (by omega)
        refine jt_callp (w := .inl (nI (sp_grow ((sp_move g c) (36 + 5 * c))))) jm_m162 75 (mi' := 159) (as := [.inl (nI ((sp_move g c) (36 + 5 * c)))]) (rest := [.inl (nI ((sp_move g c) (39 + 5 * c))), .inl (nI 99), .inl (nI (39 + 5 * c)), .inr (.inr (5, a, 0))]) (nxt := 120) rfl rfl jm_m159 rfl rfl (tb_grow (by omega)) ?_
        have bgr := sp_grow_le ((sp_move g c) (36 + 5 * c))
        refine jt_go jm_m162 76 1 (f' := (121, [(6, .inl (nI (sp_toc g c))), (5, .inl (nI (min (sp_ap (g (38 + 5 * c)) (sp_goal g c)) (sp_pace (g (36 + 5 * c)) (g (37 + 5 * c)) (g 2))))), (4, .inl (nI (sp_goal g c))), (3, .inl (nI (g (38 + 5 * c)))), (0, .inr (.inr (5, a, 0))), (1, .inl (nI c)), (2, .inl (nI 0))], [.inl ((nI ((sp_move g c) (39 + 5 * c))) + (nI (sp_grow ((sp_move g c) (36 + 5 * c))))), .inl (nI 99), .inl (nI (39 + 5 * c)), .inr (.inr (5, a, 0))], h6)) (P := True) rfl trivial ?_
        refine jt_ti (show ((nI ((sp_move g c) (39 + 5 * c))) + (nI (sp_grow ((sp_move g c) (36 + 5 * c))))) = nI ((sp_move g c) (39 + 5 * c) + (sp_grow ((sp_move g c) (36 + 5 * c)))) from nI_add _ _) ?_
        refine jt_callp (w := .inl (nI (min 99 ((sp_move g c) (39 + 5 * c) + (sp_grow ((sp_move g c) (36 + 5 * c))))))) jm_m162 77 (mi' := 144) (as := [.inl (nI 99), .inl (nI ((sp_move g c) (39 + 5 * c) + (sp_grow ((sp_move g c) (36 + 5 * c)))))]) (rest := [.inl (nI (39 + 5 * c)), .inr (.inr (5, a, 0))]) (nxt := 124) rfl rfl jm_m144 rfl rfl (tb_least (by omega) (by omega)) ?_
        refine jt_goM jm_m162 78 1 (pc' := 125) (L' := [(6, .inl (nI (sp_toc g c))), (5, .inl (nI (min (sp_ap (g (38 + 5 * c)) (sp_goal g c)) (sp_pace (g (36 + 5 * c)) (g (37 + 5 * c)) (g 2))))), (4, .inl (nI (sp_goal g c))), (3, .inl (nI (g (38 + 5 * c)))), (0, .inr (.inr (5, a, 0))), (1, .inl (nI c)), (2, .inl (nI 0))]) (st' := []) (m' := jm_set h6 (5, a, 0) (upd (h6 (5, a, 0)) (nI (39 + 5 * c)).toNatClampNeg (nI (min 99 ((sp_move g c) (39 + 5 * c) + (sp_grow ((sp_move g c) (36 + 5 * c)))))))) (P := vp_in (nI (39 + 5 * c)) 78 ∧ True) rfl ⟨(vp_in_nI (by omega) (by decide)), trivial⟩ (fun h7 eh7 => ?_)
        have Fh7 : jg_fr a h h7 := by rw [eh7]; exact jg_fr_set Fh6
        obtain ⟨gh7, egh7⟩ : ∃ y, y = sp_up (sp_move g c) (39 + 5 * c) (min 99 ((sp_move g c) (39 + 5 * c) + (sp_grow ((sp_move g c) (36 + 5 * c))))) := ⟨_, rfl⟩
        have Rh7 : jg_rel h7 a gh7 := by rw [eh7, egh7]; exact jg_set Rh6 (k := 39 + 5 * c) (w := min 99 ((sp_move g c) (39 + 5 * c) + (sp_grow ((sp_move g c) (36 + 5 * c))))) (nI_clamp (by omega)) rfl
        have eg : gh7 = sp_gone g c false := by rw [egh7]; rfl
        rw [eg] at Rh7
        have Wg := jw_gone (kept := false) W hc
        have hcg : c < sp_gone g c false 0 := by rw [sp_gone_ne W hc (by omega) (by omega) (by omega)]; exact hc
        refine jt_go jm_m162 79 1 (f' := (127, [(6, .inl (nI (sp_toc g c))), (5, .inl (nI (min (sp_ap (g (38 + 5 * c)) (sp_goal g c)) (sp_pace (g (36 + 5 * c)) (g (37 + 5 * c)) (g 2))))), (4, .inl (nI (sp_goal g c))), (3, .inl (nI (g (38 + 5 * c)))), (0, .inr (.inr (5, a, 0))), (1, .inl (nI c)), (2, .inl (nI 0))], [.inl (nI (sp_toc g c))], h7)) (P := True) rfl trivial ?_
        refine jt_callp (w := .inl (nI (sp_sd (sp_toc g c)))) jm_m162 80 (mi' := 154) (as := [.inl (nI (sp_toc g c))]) (rest := []) (nxt := 130) rfl rfl jm_m154 rfl rfl (tb_sideOf (by omega)) ?_
        have bq21 := sp_sd_le (sp_toc g c)
        refine jt_go jm_m162 81 1 (f' := (131, [(6, .inl (nI (sp_toc g c))), (5, .inl (nI (min (sp_ap (g (38 + 5 * c)) (sp_goal g c)) (sp_pace (g (36 + 5 * c)) (g (37 + 5 * c)) (g 2))))), (4, .inl (nI (sp_goal g c))), (3, .inl (nI (g (38 + 5 * c)))), (0, .inr (.inr (5, a, 0))), (1, .inl (nI c)), (2, .inl (nI 0))], [.inl (nI (g (38 + 5 * c))), .inl (nI (sp_sd (sp_toc g c)))], h7)) (P := True) rfl trivial ?_
        refine jt_callp (w := .inl (nI (sp_sd (g (38 + 5 * c))))) jm_m162 82 (mi' := 154) (as := [.inl (nI (g (38 + 5 * c)))]) (rest := [.inl (nI (sp_sd (sp_toc g c)))]) (nxt := 134) rfl rfl jm_m154 rfl rfl (tb_sideOf (by omega)) ?_
        have bq22 := sp_sd_le (g (38 + 5 * c))
        refine jt_niceq jm_m162 83 (a := sp_sd (sp_toc g c)) (b := sp_sd (g (38 + 5 * c))) (by omega) (by omega) (tgt := 141) (nxt := 137) rfl rfl rfl (fun c134 => ?_) (fun c134 => ?_)
        · refine jt_go jm_m162 86 3 (f' := (146, [(7, .inl (nI 0)), (6, .inl (nI (sp_toc g c))), (5, .inl (nI (min (sp_ap (g (38 + 5 * c)) (sp_goal g c)) (sp_pace (g (36 + 5 * c)) (g (37 + 5 * c)) (g 2))))), (4, .inl (nI (sp_goal g c))), (3, .inl (nI (g (38 + 5 * c)))), (0, .inr (.inr (5, a, 0))), (1, .inl (nI c)), (2, .inl (nI 0))], [.inl (nI 0)], h7)) (P := True) rfl trivial ?_
          refine jt_nifeq jm_m162 89 (by omega) (tgt := 158) (nxt := 149) rfl rfl rfl (fun c146 => ?_) (fun c146 => ?_)
          · refine jt_go jm_m162 95 1 (f' := (160, [(7, .inl (nI 0)), (6, .inl (nI (sp_toc g c))), (5, .inl (nI (min (sp_ap (g (38 + 5 * c)) (sp_goal g c)) (sp_pace (g (36 + 5 * c)) (g (37 + 5 * c)) (g 2))))), (4, .inl (nI (sp_goal g c))), (3, .inl (nI (g (38 + 5 * c)))), (0, .inr (.inr (5, a, 0))), (1, .inl (nI c)), (2, .inl (nI 0))], [.inl (nI 0)], h7)) (P := True) rfl trivial ?_
            refine jt_zret jm_m162 96 rfl (Or.inl rfl) ?_
            refine ⟨jt_lb0 (by rw [sp_gone_at W hc]; exact fun z => z c134.symm), ?_, Fh7⟩
            unfold sp_one
            rw [if_neg (by rw [sp_gone_at W hc]; exact fun z => z c134.symm)]
            exact Rh7
          · exact absurd c146 (by decide)
        · refine jt_go jm_m162 84 2 (f' := (142, [(6, .inl (nI (sp_toc g c))), (5, .inl (nI (min (sp_ap (g (38 + 5 * c)) (sp_goal g c)) (sp_pace (g (36 + 5 * c)) (g (37 + 5 * c)) (g 2))))), (4, .inl (nI (sp_goal g c))), (3, .inl (nI (g (38 + 5 * c)))), (0, .inr (.inr (5, a, 0))), (1, .inl (nI c)), (2, .inl (nI 0))], [.inl (nI 1)], h7)) (P := True) rfl trivial ?_
          refine jt_go jm_m162 87 2 (f' := (146, [(7, .inl (nI 1)), (6, .inl (nI (sp_toc g c))), (5, .inl (nI (min (sp_ap (g (38 + 5 * c)) (sp_goal g c)) (sp_pace (g (36 + 5 * c)) (g (37 + 5 * c)) (g 2))))), (4, .inl (nI (sp_goal g c))), (3, .inl (nI (g (38 + 5 * c)))), (0, .inr (.inr (5, a, 0))), (1, .inl (nI c)), (2, .inl (nI 0))], [.inl (nI 1)], h7)) (P := True) rfl trivial ?_
          refine jt_nifeq jm_m162 89 (by omega) (tgt := 158) (nxt := 149) rfl rfl rfl (fun c146 => ?_) (fun c146 => ?_)
          · exact absurd c146 (by decide)
          · refine jt_go jm_m162 90 3 (f' := (152, [(7, .inl (nI 1)), (6, .inl (nI (sp_toc g c))), (5, .inl (nI (min (sp_ap (g (38 + 5 * c)) (sp_goal g c)) (sp_pace (g (36 + 5 * c)) (g (37 + 5 * c)) (g 2))))), (4, .inl (nI (sp_goal g c))), (3, .inl (nI (g (38 + 5 * c)))), (0, .inr (.inr (5, a, 0))), (1, .inl (nI c)), (2, .inl (nI 0))], [.inl (nI (g (38 + 5 * c))), .inl (nI c), .inr (.inr (5, a, 0))], h7)) (P := True) rfl trivial ?_
            refine jt_callp (w := .inl (nI (sp_sd (g (38 + 5 * c))))) jm_m162 93 (mi' := 154) (as := [.inl (nI (g (38 + 5 * c)))]) (rest := [.inl (nI c), .inr (.inr (5, a, 0))]) (nxt := 155) rfl rfl jm_m154 rfl rfl (tb_sideOf (by omega)) ?_
            have bq23 := sp_sd_le (g (38 + 5 * c))
            refine jt_call jm_m162 94 (mi' := 161) (as := [.inr (.inr (5, a, 0)), .inl (nI c), .inl (nI (sp_sd (g (38 + 5 * c))))]) (rest := []) (nxt := 158) rfl rfl jm_m161 rfl rfl (tb_pass Rh7 Wg hcg (sp_sd_le _)) ?_
            rintro u h9 ⟨rfl, Rh9, Fh9⟩
            show jt_T 162 (158, [(7, .inl (nI 1)), (6, .inl (nI (sp_toc g c))), (5, .inl (nI (min (sp_ap (g (38 + 5 * c)) (sp_goal g c)) (sp_pace (g (36 + 5 * c)) (g (37 + 5 * c)) (g 2))))), (4, .inl (nI (sp_goal g c))), (3, .inl (nI (g (38 + 5 * c)))), (0, .inr (.inr (5, a, 0))), (1, .inl (nI c)), (2, .inl (nI 0))], [], h9) _
            have Fh9 := jg_fr_tr Fh7 Fh9
            refine jt_go jm_m162 95 1 (f' := (160, [(7, .inl (nI 1)), (6, .inl (nI (sp_toc g c))), (5, .inl (nI (min (sp_ap (g (38 + 5 * c)) (sp_goal g c)) (sp_pace (g (36 + 5 * c)) (g (37 + 5 * c)) (g 2))))), (4, .inl (nI (sp_goal g c))), (3, .inl (nI (g (38 + 5 * c)))), (0, .inr (.inr (5, a, 0))), (1, .inl (nI c)), (2, .inl (nI 0))], [.inl (nI 1)], h9)) (P := True) rfl trivial ?_
            refine jt_zret jm_m162 96 rfl (Or.inr rfl) ?_
            refine ⟨jt_lb1 (by rw [sp_gone_at W hc]; exact fun z => c134 z.symm), ?_, Fh9⟩
            unfold sp_one
            rw [if_pos (by rw [sp_gone_at W hc]; exact fun z => c134 z.symm)]
            exact Rh9
      · refine jt_go jm_m162 45 4 (f' := (81, [(6, .inl (nI (sp_toc g c))), (5, .inl (nI (min (sp_ap (g (38 + 5 * c)) (sp_goal g c)) (sp_pace (g (36 + 5 * c)) (g (37 + 5 * c)) (g 2))))), (4, .inl (nI (sp_goal g c))), (3, .inl (nI (g (38 + 5 * c)))), (0, .inr (.inr (5, a, 0))), (1, .inl (nI c)), (2, .inl (nI 0))], [.inl ((nI 4) + (nI (sp_toc g c))), .inr (.inr (5, a, 0))], h6)) (P := True) rfl trivial ?_
        refine jt_ti (show ((nI 4) + (nI (sp_toc g c))) = nI (4 + sp_toc g c) from nI_add _ _) ?_
        refine jt_go jm_m162 49 1 (f' := (82, [(6, .inl (nI (sp_toc g c))), (5, .inl (nI (min (sp_ap (g (38 + 5 * c)) (sp_goal g c)) (sp_pace (g (36 + 5 * c)) (g (37 + 5 * c)) (g 2))))), (4, .inl (nI (sp_goal g c))), (3, .inl (nI (g (38 + 5 * c)))), (0, .inr (.inr (5, a, 0))), (1, .inl (nI c)), (2, .inl (nI 0))], [.inl (h6 (5, a, 0) (nI (4 + sp_toc g c)).toNatClampNeg)], h6)) (P := vp_in (nI (4 + sp_toc g c)) 78 ∧ True) rfl ⟨(vp_in_nI (by omega) (by decide)), trivial⟩ ?_
        refine jt_ti (show (h6 (5, a, 0) (nI (4 + sp_toc g c)).toNatClampNeg) = nI (gh6 (4 + sp_toc g c)) from jg_get Rh6 (k := 4 + sp_toc g c) (nI_clamp (by omega)) (by omega)) ?_
        have bf : gh6 (4 + sp_toc g c) ≤ 9 := by rw [egh6, sp_up_ne (by omega)]; exact jw_fish W bs
        refine jt_nifle jm_m162 50 (by omega) (tgt := 95) (nxt := 85) rfl rfl rfl (fun c82 => ?_) (fun c82 => ?_)
        · have e95 : gh6 = sp_move g c := by rw [egh6]; unfold sp_move; rw [if_neg c73]; unfold sp_eat; rw [← egh6, if_neg (by omega)]
          rw [e95] at Rh6
          refine jt_go jm_m162 60 3 (f' := (98, [(6, .inl (nI (sp_toc g c))), (5, .inl (nI (min (sp_ap (g (38 + 5 * c)) (sp_goal g c)) (sp_pace (g (36 + 5 * c)) (g (37 + 5 * c)) (g 2))))), (4, .inl (nI (sp_goal g c))), (3, .inl (nI (g (38 + 5 * c)))), (0, .inr (.inr (5, a, 0))), (1, .inl (nI c)), (2, .inl (nI 0))], [.inl (nI 3), .inl (nI c), .inr (.inr (5, a, 0))], h6)) (P := True) rfl trivial ?_
          refine jt_callp (w := .inl (nI (39 + 5 * c))) jm_m162 63 (mi' := 147) (as := [.inl (nI c), .inl (nI 3)]) (rest := [.inr (.inr (5, a, 0))]) (nxt := 101) rfl rfl jm_m147 rfl rfl (tb_ofC (k := 39 + 5 * c) (by omega)) ?_
          refine jt_go jm_m162 64 4 (f' := (106, [(6, .inl (nI (sp_toc g c))), (5, .inl (nI (min (sp_ap (g (38 + 5 * c)) (sp_goal g c)) (sp_pace (g (36 + 5 * c)) (g (37 + 5 * c)) (g 2))))), (4, .inl (nI (sp_goal g c))), (3, .inl (nI (g (38 + 5 * c)))), (0, .inr (.inr (5, a, 0))), (1, .inl (nI c)), (2, .inl (nI 0))], [.inl (nI 3), .inl (nI c), .inr (.inr (5, a, 0)), .inl (nI 99), .inl (nI (39 + 5 * c)), .inr (.inr (5, a, 0))], h6)) (P := True) rfl trivial ?_
          refine jt_callp (w := .inl (nI (39 + 5 * c))) jm_m162 68 (mi' := 147) (as := [.inl (nI c), .inl (nI 3)]) (rest := [.inr (.inr (5, a, 0)), .inl (nI 99), .inl (nI (39 + 5 * c)), .inr (.inr (5, a, 0))]) (nxt := 109) rfl rfl jm_m147 rfl rfl (tb_ofC (k := 39 + 5 * c) (by omega)) ?_
          refine jt_go jm_m162 69 1 (f' := (110, [(6, .inl (nI (sp_toc g c))), (5, .inl (nI (min (sp_ap (g (38 + 5 * c)) (sp_goal g c)) (sp_pace (g (36 + 5 * c)) (g (37 + 5 * c)) (g 2))))), (4, .inl (nI (sp_goal g c))), (3, .inl (nI (g (38 + 5 * c)))), (0, .inr (.inr (5, a, 0))), (1, .inl (nI c)), (2, .inl (nI 0))], [.inl (h6 (5, a, 0) (nI (39 + 5 * c)).toNatClampNeg), .inl (nI 99), .inl (nI (39 + 5 * c)), .inr (.inr (5, a, 0))], h6)) (P := vp_in (nI (39 + 5 * c)) 78 ∧ True) rfl ⟨(vp_in_nI (by omega) (by decide)), trivial⟩ ?_
          refine jt_ti (show (h6 (5, a, 0) (nI (39 + 5 * c)).toNatClampNeg) = nI ((sp_move g c) (39 + 5 * c)) from jg_get Rh6 (k := 39 + 5 * c) (nI_clamp (by omega)) (by omega)) ?_
          have bq24 := jw_hair Wm (c := c) (by omega)
          refine jt_go jm_m162 70 3 (f' := (113, [(6, .inl (nI (sp_toc g c))), (5, .inl (nI (min (sp_ap (g (38 + 5 * c)) (sp_goal g c)) (sp_pace (g (36 + 5 * c)) (g (37 + 5 * c)) (g 2))))), (4, .inl (nI (sp_goal g c))), (3, .inl (nI (g (38 + 5 * c)))), (0, .inr (.inr (5, a, 0))), (1, .inl (nI c)), (2, .inl (nI 0))], [.inl (nI 0), .inl (nI c), .inr (.inr (5, a, 0)), .inl (nI ((sp_move g c) (39 + 5 * c))), .inl (nI 99), .inl (nI (39 + 5 * c)), .inr (.inr (5, a, 0))], h6)) (P := True) rfl trivial ?_
          refine jt_callp (w := .inl (nI (36 + 5 * c))) jm_m162 73 (mi' := 147) (as := [.inl (nI c), .inl (nI 0)]) (rest := [.inr (.inr (5, a, 0)), .inl (nI ((sp_move g c) (39 + 5 * c))), .inl (nI 99), .inl (nI (39 + 5 * c)), .inr (.inr (5, a, 0))]) (nxt := 116) rfl rfl jm_m147 rfl rfl (tb_ofC (k := 36 + 5 * c) (by omega)) ?_
          refine jt_go jm_m162 74 1 (f' := (117, [(6, .inl (nI (sp_toc g c))), (5, .inl (nI (min (sp_ap (g (38 + 5 * c)) (sp_goal g c)) (sp_pace (g (36 + 5 * c)) (g (37 + 5 * c)) (g 2))))), (4, .inl (nI (sp_goal g c))), (3, .inl (nI (g (38 + 5 * c)))), (0, .inr (.inr (5, a, 0))), (1, .inl (nI c)), (2, .inl (nI 0))], [.inl (h6 (5, a, 0) (nI (36 + 5 * c)).toNatClampNeg), .inl (nI ((sp_move g c) (39 + 5 * c))), .inl (nI 99), .inl (nI (39 + 5 * c)), .inr (.inr (5, a, 0))], h6)) (P := vp_in (nI (36 + 5 * c)) 78 ∧ True) rfl ⟨(vp_in_nI (by omega) (by decide)), trivial⟩ ?_
          refine jt_ti (show (h6 (5, a, 0) (nI (36 + 5 * c)).toNatClampNeg) = nI ((sp_move g c) (36 + 5 * c)) from jg_get Rh6 (k := 36 + 5 * c) (nI_clamp (by omega)) (by omega)) ?_
          have bq25 := jw_kind Wm (c := c) (by omega)
          refine jt_callp (w := .inl (nI (sp_grow ((sp_move g c) (36 + 5 * c))))) jm_m162 75 (mi' := 159) (as := [.inl (nI ((sp_move g c) (36 + 5 * c)))]) (rest := [.inl (nI ((sp_move g c) (39 + 5 * c))), .inl (nI 99), .inl (nI (39 + 5 * c)), .inr (.inr (5, a, 0))]) (nxt := 120) rfl rfl jm_m159 rfl rfl (tb_grow (by omega)) ?_
          have bgr := sp_grow_le ((sp_move g c) (36 + 5 * c))
          refine jt_go jm_m162 76 1 (f' := (121, [(6, .inl (nI (sp_toc g c))), (5, .inl (nI (min (sp_ap (g (38 + 5 * c)) (sp_goal g c)) (sp_pace (g (36 + 5 * c)) (g (37 + 5 * c)) (g 2))))), (4, .inl (nI (sp_goal g c))), (3, .inl (nI (g (38 + 5 * c)))), (0, .inr (.inr (5, a, 0))), (1, .inl (nI c)), (2, .inl (nI 0))], [.inl ((nI ((sp_move g c) (39 + 5 * c))) + (nI (sp_grow ((sp_move g c) (36 + 5 * c))))), .inl (nI 99), .inl (nI (39 + 5 * c)), .inr (.inr (5, a, 0))], h6)) (P := True) rfl trivial ?_
          refine jt_ti (show ((nI ((sp_move g c) (39 + 5 * c))) + (nI (sp_grow ((sp_move g c) (36 + 5 * c))))) = nI ((sp_move g c) (39 + 5 * c) + (sp_grow ((sp_move g c) (36 + 5 * c)))) from nI_add _ _) ?_
          refine jt_callp (w := .inl (nI (min 99 ((sp_move g c) (39 + 5 * c) + (sp_grow ((sp_move g c) (36 + 5 * c))))))) jm_m162 77 (mi' := 144) (as := [.inl (nI 99), .inl (nI ((sp_move g c) (39 + 5 * c) + (sp_grow ((sp_move g c) (36 + 5 * c)))))]) (rest := [.inl (nI (39 + 5 * c)), .inr (.inr (5, a, 0))]) (nxt := 124) rfl rfl jm_m144 rfl rfl (tb_least (by omega) (by omega)) ?_
          refine jt_goM jm_m162 78 1 (pc' := 125) (L' := [(6, .inl (nI (sp_toc g c))), (5, .inl (nI (min (sp_ap (g (38 + 5 * c)) (sp_goal g c)) (sp_pace (g (36 + 5 * c)) (g (37 + 5 * c)) (g 2))))), (4, .inl (nI (sp_goal g c))), (3, .inl (nI (g (38 + 5 * c)))), (0, .inr (.inr (5, a, 0))), (1, .inl (nI c)), (2, .inl (nI 0))]) (st' := []) (m' := jm_set h6 (5, a, 0) (upd (h6 (5, a, 0)) (nI (39 + 5 * c)).toNatClampNeg (nI (min 99 ((sp_move g c) (39 + 5 * c) + (sp_grow ((sp_move g c) (36 + 5 * c)))))))) (P := vp_in (nI (39 + 5 * c)) 78 ∧ True) rfl ⟨(vp_in_nI (by omega) (by decide)), trivial⟩ (fun h8 eh8 => ?_)
          have Fh8 : jg_fr a h h8 := by rw [eh8]; exact jg_fr_set Fh6
          obtain ⟨gh8, egh8⟩ : ∃ y, y = sp_up (sp_move g c) (39 + 5 * c) (min 99 ((sp_move g c) (39 + 5 * c) + (sp_grow ((sp_move g c) (36 + 5 * c))))) := ⟨_, rfl⟩
          have Rh8 : jg_rel h8 a gh8 := by rw [eh8, egh8]; exact jg_set Rh6 (k := 39 + 5 * c) (w := min 99 ((sp_move g c) (39 + 5 * c) + (sp_grow ((sp_move g c) (36 + 5 * c))))) (nI_clamp (by omega)) rfl
          have eg : gh8 = sp_gone g c false := by rw [egh8]; rfl
          rw [eg] at Rh8
          have Wg := jw_gone (kept := false) W hc
          have hcg : c < sp_gone g c false 0 := by rw [sp_gone_ne W hc (by omega) (by omega) (by omega)]; exact hc
          refine jt_go jm_m162 79 1 (f' := (127, [(6, .inl (nI (sp_toc g c))), (5, .inl (nI (min (sp_ap (g (38 + 5 * c)) (sp_goal g c)) (sp_pace (g (36 + 5 * c)) (g (37 + 5 * c)) (g 2))))), (4, .inl (nI (sp_goal g c))), (3, .inl (nI (g (38 + 5 * c)))), (0, .inr (.inr (5, a, 0))), (1, .inl (nI c)), (2, .inl (nI 0))], [.inl (nI (sp_toc g c))], h8)) (P := True) rfl trivial ?_
          refine jt_callp (w := .inl (nI (sp_sd (sp_toc g c)))) jm_m162 80 (mi' := 154) (as := [.inl (nI (sp_toc g c))]) (rest := []) (nxt := 130) rfl rfl jm_m154 rfl rfl (tb_sideOf (by omega)) ?_
          have bq26 := sp_sd_le (sp_toc g c)
          refine jt_go jm_m162 81 1 (f' := (131, [(6, .inl (nI (sp_toc g c))), (5, .inl (nI (min (sp_ap (g (38 + 5 * c)) (sp_goal g c)) (sp_pace (g (36 + 5 * c)) (g (37 + 5 * c)) (g 2))))), (4, .inl (nI (sp_goal g c))), (3, .inl (nI (g (38 + 5 * c)))), (0, .inr (.inr (5, a, 0))), (1, .inl (nI c)), (2, .inl (nI 0))], [.inl (nI (g (38 + 5 * c))), .inl (nI (sp_sd (sp_toc g c)))], h8)) (P := True) rfl trivial ?_
          refine jt_callp (w := .inl (nI (sp_sd (g (38 + 5 * c))))) jm_m162 82 (mi' := 154) (as := [.inl (nI (g (38 + 5 * c)))]) (rest := [.inl (nI (sp_sd (sp_toc g c)))]) (nxt := 134) rfl rfl jm_m154 rfl rfl (tb_sideOf (by omega)) ?_
          have bq27 := sp_sd_le (g (38 + 5 * c))
          refine jt_niceq jm_m162 83 (a := sp_sd (sp_toc g c)) (b := sp_sd (g (38 + 5 * c))) (by omega) (by omega) (tgt := 141) (nxt := 137) rfl rfl rfl (fun c134 => ?_) (fun c134 => ?_)
          · refine jt_go jm_m162 86 3 (f' := (146, [(7, .inl (nI 0)), (6, .inl (nI (sp_toc g c))), (5, .inl (nI (min (sp_ap (g (38 + 5 * c)) (sp_goal g c)) (sp_pace (g (36 + 5 * c)) (g (37 + 5 * c)) (g 2))))), (4, .inl (nI (sp_goal g c))), (3, .inl (nI (g (38 + 5 * c)))), (0, .inr (.inr (5, a, 0))), (1, .inl (nI c)), (2, .inl (nI 0))], [.inl (nI 0)], h8)) (P := True) rfl trivial ?_
            refine jt_nifeq jm_m162 89 (by omega) (tgt := 158) (nxt := 149) rfl rfl rfl (fun c146 => ?_) (fun c146 => ?_)
            · refine jt_go jm_m162 95 1 (f' := (160, [(7, .inl (nI 0)), (6, .inl (nI (sp_toc g c))), (5, .inl (nI (min (sp_ap (g (38 + 5 * c)) (sp_goal g c)) (sp_pace (g (36 + 5 * c)) (g (37 + 5 * c)) (g 2))))), (4, .inl (nI (sp_goal g c))), (3, .inl (nI (g (38 + 5 * c)))), (0, .inr (.inr (5, a, 0))), (1, .inl (nI c)), (2, .inl (nI 0))], [.inl (nI 0)], h8)) (P := True) rfl trivial ?_
              refine jt_zret jm_m162 96 rfl (Or.inl rfl) ?_
              refine ⟨jt_lb0 (by rw [sp_gone_at W hc]; exact fun z => z c134.symm), ?_, Fh8⟩
              unfold sp_one
              rw [if_neg (by rw [sp_gone_at W hc]; exact fun z => z c134.symm)]
              exact Rh8
            · exact absurd c146 (by decide)
          · refine jt_go jm_m162 84 2 (f' := (142, [(6, .inl (nI (sp_toc g c))), (5, .inl (nI (min (sp_ap (g (38 + 5 * c)) (sp_goal g c)) (sp_pace (g (36 + 5 * c)) (g (37 + 5 * c)) (g 2))))), (4, .inl (nI (sp_goal g c))), (3, .inl (nI (g (38 + 5 * c)))), (0, .inr (.inr (5, a, 0))), (1, .inl (nI c)), (2, .inl (nI 0))], [.inl (nI 1)], h8)) (P := True) rfl trivial ?_
            refine jt_go jm_m162 87 2 (f' := (146, [(7, .inl (nI 1)), (6, .inl (nI (sp_toc g c))), (5, .inl (nI (min (sp_ap (g (38 + 5 * c)) (sp_goal g c)) (sp_pace (g (36 + 5 * c)) (g (37 + 5 * c)) (g 2))))), (4, .inl (nI (sp_goal g c))), (3, .inl (nI (g (38 + 5 * c)))), (0, .inr (.inr (5, a, 0))), (1, .inl (nI c)), (2, .inl (nI 0))], [.inl (nI 1)], h8)) (P := True) rfl trivial ?_
            refine jt_nifeq jm_m162 89 (by omega) (tgt := 158) (nxt := 149) rfl rfl rfl (fun c146 => ?_) (fun c146 => ?_)
            · exact absurd c146 (by decide)
            · refine jt_go jm_m162 90 3 (f' := (152, [(7, .inl (nI 1)), (6, .inl (nI (sp_toc g c))), (5, .inl (nI (min (sp_ap (g (38 + 5 * c)) (sp_goal g c)) (sp_pace (g (36 + 5 * c)) (g (37 + 5 * c)) (g 2))))), (4, .inl (nI (sp_goal g c))), (3, .inl (nI (g (38 + 5 * c)))), (0, .inr (.inr (5, a, 0))), (1, .inl (nI c)), (2, .inl (nI 0))], [.inl (nI (g (38 + 5 * c))), .inl (nI c), .inr (.inr (5, a, 0))], h8)) (P := True) rfl trivial ?_
              refine jt_callp (w := .inl (nI (sp_sd (g (38 + 5 * c))))) jm_m162 93 (mi' := 154) (as := [.inl (nI (g (38 + 5 * c)))]) (rest := [.inl (nI c), .inr (.inr (5, a, 0))]) (nxt := 155) rfl rfl jm_m154 rfl rfl (tb_sideOf (by omega)) ?_
              have bq28 := sp_sd_le (g (38 + 5 * c))
              refine jt_call jm_m162 94 (mi' := 161) (as := [.inr (.inr (5, a, 0)), .inl (nI c), .inl (nI (sp_sd (g (38 + 5 * c))))]) (rest := []) (nxt := 158) rfl rfl jm_m161 rfl rfl (tb_pass Rh8 Wg hcg (sp_sd_le _)) ?_
              rintro u h9 ⟨rfl, Rh9, Fh9⟩
              show jt_T 162 (158, [(7, .inl (nI 1)), (6, .inl (nI (sp_toc g c))), (5, .inl (nI (min (sp_ap (g (38 + 5 * c)) (sp_goal g c)) (sp_pace (g (36 + 5 * c)) (g (37 + 5 * c)) (g 2))))), (4, .inl (nI (sp_goal g c))), (3, .inl (nI (g (38 + 5 * c)))), (0, .inr (.inr (5, a, 0))), (1, .inl (nI c)), (2, .inl (nI 0))], [], h9) _
              have Fh9 := jg_fr_tr Fh8 Fh9
              refine jt_go jm_m162 95 1 (f' := (160, [(7, .inl (nI 1)), (6, .inl (nI (sp_toc g c))), (5, .inl (nI (min (sp_ap (g (38 + 5 * c)) (sp_goal g c)) (sp_pace (g (36 + 5 * c)) (g (37 + 5 * c)) (g 2))))), (4, .inl (nI (sp_goal g c))), (3, .inl (nI (g (38 + 5 * c)))), (0, .inr (.inr (5, a, 0))), (1, .inl (nI c)), (2, .inl (nI 0))], [.inl (nI 1)], h9)) (P := True) rfl trivial ?_
              refine jt_zret jm_m162 96 rfl (Or.inr rfl) ?_
              refine ⟨jt_lb1 (by rw [sp_gone_at W hc]; exact fun z => c134 z.symm), ?_, Fh9⟩
              unfold sp_one
              rw [if_pos (by rw [sp_gone_at W hc]; exact fun z => c134 z.symm)]
              exact Rh9
        · refine jt_go jm_m162 51 4 (f' := (90, [(6, .inl (nI (sp_toc g c))), (5, .inl (nI (min (sp_ap (g (38 + 5 * c)) (sp_goal g c)) (sp_pace (g (36 + 5 * c)) (g (37 + 5 * c)) (g 2))))), (4, .inl (nI (sp_goal g c))), (3, .inl (nI (g (38 + 5 * c)))), (0, .inr (.inr (5, a, 0))), (1, .inl (nI c)), (2, .inl (nI 0))], [.inl ((nI 4) + (nI (sp_toc g c))), .inr (.inr (5, a, 0))], h6)) (P := True) rfl trivial ?_
          refine jt_ti (show ((nI 4) + (nI (sp_toc g c))) = nI (4 + sp_toc g c) from nI_add _ _) ?_
          refine jt_go jm_m162 55 2 (f' := (92, [(6, .inl (nI (sp_toc g c))), (5, .inl (nI (min (sp_ap (g (38 + 5 * c)) (sp_goal g c)) (sp_pace (g (36 + 5 * c)) (g (37 + 5 * c)) (g 2))))), (4, .inl (nI (sp_goal g c))), (3, .inl (nI (g (38 + 5 * c)))), (0, .inr (.inr (5, a, 0))), (1, .inl (nI c)), (2, .inl (nI 0))], [.inl (h6 (5, a, 0) (nI (4 + sp_toc g c)).toNatClampNeg), .inl (nI (4 + sp_toc g c)), .inr (.inr (5, a, 0))], h6)) (P := vp_in (nI (4 + sp_toc g c)) 78 ∧ True) rfl ⟨(vp_in_nI (by omega) (by decide)), trivial⟩ ?_
          refine jt_ti (show (h6 (5, a, 0) (nI (4 + sp_toc g c)).toNatClampNeg) = nI (gh6 (4 + sp_toc g c)) from jg_get Rh6 (k := 4 + sp_toc g c) (nI_clamp (by omega)) (by omega)) ?_
          refine jt_go jm_m162 57 2 (f' := (94, [(6, .inl (nI (sp_toc g c))), (5, .inl (nI (min (sp_ap (g (38 + 5 * c)) (sp_goal g c)) (sp_pace (g (36 + 5 * c)) (g (37 + 5 * c)) (g 2))))), (4, .inl (nI (sp_goal g c))), (3, .inl (nI (g (38 + 5 * c)))), (0, .inr (.inr (5, a, 0))), (1, .inl (nI c)), (2, .inl (nI 0))], [.inl ((nI (gh6 (4 + sp_toc g c))) - (nI 1)), .inl (nI (4 + sp_toc g c)), .inr (.inr (5, a, 0))], h6)) (P := True) rfl trivial ?_
          refine jt_ti (show ((nI (gh6 (4 + sp_toc g c))) - (nI 1)) = nI (gh6 (4 + sp_toc g c) - 1) from nI_subN (by omega)) ?_
          refine jt_goM jm_m162 59 1 (pc' := 95) (L' := [(6, .inl (nI (sp_toc g c))), (5, .inl (nI (min (sp_ap (g (38 + 5 * c)) (sp_goal g c)) (sp_pace (g (36 + 5 * c)) (g (37 + 5 * c)) (g 2))))), (4, .inl (nI (sp_goal g c))), (3, .inl (nI (g (38 + 5 * c)))), (0, .inr (.inr (5, a, 0))), (1, .inl (nI c)), (2, .inl (nI 0))]) (st' := []) (m' := jm_set h6 (5, a, 0) (upd (h6 (5, a, 0)) (nI (4 + sp_toc g c)).toNatClampNeg (nI (gh6 (4 + sp_toc g c) - 1)))) (P := vp_in (nI (4 + sp_toc g c)) 78 ∧ True) rfl ⟨(vp_in_nI (by omega) (by decide)), trivial⟩ (fun h9 eh9 => ?_)
          have Fh9 : jg_fr a h h9 := by rw [eh9]; exact jg_fr_set Fh6
          obtain ⟨gh9, egh9⟩ : ∃ y, y = sp_up gh6 (4 + sp_toc g c) (gh6 (4 + sp_toc g c) - 1) := ⟨_, rfl⟩
          have Rh9 : jg_rel h9 a gh9 := by rw [eh9, egh9]; exact jg_set Rh6 (k := 4 + sp_toc g c) (w := gh6 (4 + sp_toc g c) - 1) (nI_clamp (by omega)) rfl
          have e95 : gh9 = sp_move g c := by rw [egh9]; unfold sp_move; rw [if_neg c73]; unfold sp_eat; rw [← egh6, if_pos c82]
          rw [e95] at Rh9
          refine jt_go jm_m162 60 3 (f' := (98, [(6, .inl (nI (sp_toc g c))), (5, .inl (nI (min (sp_ap (g (38 + 5 * c)) (sp_goal g c)) (sp_pace (g (36 + 5 * c)) (g (37 + 5 * c)) (g 2))))), (4, .inl (nI (sp_goal g c))), (3, .inl (nI (g (38 + 5 * c)))), (0, .inr (.inr (5, a, 0))), (1, .inl (nI c)), (2, .inl (nI 0))], [.inl (nI 3), .inl (nI c), .inr (.inr (5, a, 0))], h9)) (P := True) rfl trivial ?_
          refine jt_callp (w := .inl (nI (39 + 5 * c))) jm_m162 63 (mi' := 147) (as := [.inl (nI c), .inl (nI 3)]) (rest := [.inr (.inr (5, a, 0))]) (nxt := 101) rfl rfl jm_m147 rfl rfl (tb_ofC (k := 39 + 5 * c) (by omega)) ?_
          refine jt_go jm_m162 64 4 (f' := (106, [(6, .inl (nI (sp_toc g c))), (5, .inl (nI (min (sp_ap (g (38 + 5 * c)) (sp_goal g c)) (sp_pace (g (36 + 5 * c)) (g (37 + 5 * c)) (g 2))))), (4, .inl (nI (sp_goal g c))), (3, .inl (nI (g (38 + 5 * c)))), (0, .inr (.inr (5, a, 0))), (1, .inl (nI c)), (2, .inl (nI 0))], [.inl (nI 3), .inl (nI c), .inr (.inr (5, a, 0)), .inl (nI 99), .inl (nI (39 + 5 * c)), .inr (.inr (5, a, 0))], h9)) (P := True) rfl trivial ?_
          refine jt_callp (w := .inl (nI (39 + 5 * c))) jm_m162 68 (mi' := 147) (as := [.inl (nI c), .inl (nI 3)]) (rest := [.inr (.inr (5, a, 0)), .inl (nI 99), .inl (nI (39 + 5 * c)), .inr (.inr (5, a, 0))]) (nxt := 109) rfl rfl jm_m147 rfl rfl (tb_ofC (k := 39 + 5 * c) (by omega)) ?_
          refine jt_go jm_m162 69 1 (f' := (110, [(6, .inl (nI (sp_toc g c))), (5, .inl (nI (min (sp_ap (g (38 + 5 * c)) (sp_goal g c)) (sp_pace (g (36 + 5 * c)) (g (37 + 5 * c)) (g 2))))), (4, .inl (nI (sp_goal g c))), (3, .inl (nI (g (38 + 5 * c)))), (0, .inr (.inr (5, a, 0))), (1, .inl (nI c)), (2, .inl (nI 0))], [.inl (h9 (5, a, 0) (nI (39 + 5 * c)).toNatClampNeg), .inl (nI 99), .inl (nI (39 + 5 * c)), .inr (.inr (5, a, 0))], h9)) (P := vp_in (nI (39 + 5 * c)) 78 ∧ True) rfl ⟨(vp_in_nI (by omega) (by decide)), trivial⟩ ?_
          refine jt_ti (show (h9 (5, a, 0) (nI (39 + 5 * c)).toNatClampNeg) = nI ((sp_move g c) (39 + 5 * c)) from jg_get Rh9 (k := 39 + 5 * c) (nI_clamp (by omega)) (by omega)) ?_
          have bq29 := jw_hair Wm (c := c) (by omega)
          refine jt_go jm_m162 70 3 (f' := (113, [(6, .inl (nI (sp_toc g c))), (5, .inl (nI (min (sp_ap (g (38 + 5 * c)) (sp_goal g c)) (sp_pace (g (36 + 5 * c)) (g (37 + 5 * c)) (g 2))))), (4, .inl (nI (sp_goal g c))), (3, .inl (nI (g (38 + 5 * c)))), (0, .inr (.inr (5, a, 0))), (1, .inl (nI c)), (2, .inl (nI 0))], [.inl (nI 0), .inl (nI c), .inr (.inr (5, a, 0)), .inl (nI ((sp_move g c) (39 + 5 * c))), .inl (nI 99), .inl (nI (39 + 5 * c)), .inr (.inr (5, a, 0))], h9)) (P := True) rfl trivial ?_
          refine jt_callp (w := .inl (nI (36 + 5 * c))) jm_m162 73 (mi' := 147) (as := [.inl (nI c), .inl (nI 0)]) (rest := [.inr (.inr (5, a, 0)), .inl (nI ((sp_move g c) (39 + 5 * c))), .inl (nI 99), .inl (nI (39 + 5 * c)), .inr (.inr (5, a, 0))]) (nxt := 116) rfl rfl jm_m147 rfl rfl (tb_ofC (k := 36 + 5 * c) (by omega)) ?_
          refine jt_go jm_m162 74 1 (f' := (117, [(6, .inl (nI (sp_toc g c))), (5, .inl (nI (min (sp_ap (g (38 + 5 * c)) (sp_goal g c)) (sp_pace (g (36 + 5 * c)) (g (37 + 5 * c)) (g 2))))), (4, .inl (nI (sp_goal g c))), (3, .inl (nI (g (38 + 5 * c)))), (0, .inr (.inr (5, a, 0))), (1, .inl (nI c)), (2, .inl (nI 0))], [.inl (h9 (5, a, 0) (nI (36 + 5 * c)).toNatClampNeg), .inl (nI ((sp_move g c) (39 + 5 * c))), .inl (nI 99), .inl (nI (39 + 5 * c)), .inr (.inr (5, a, 0))], h9)) (P := vp_in (nI (36 + 5 * c)) 78 ∧ True) rfl ⟨(vp_in_nI (by omega) (by decide)), trivial⟩ ?_
          refine jt_ti (show (h9 (5, a, 0) (nI (36 + 5 * c)).toNatClampNeg) = nI ((sp_move g c) (36 + 5 * c)) from jg_get Rh9 (k := 36 + 5 * c) (nI_clamp (by omega)) (by omega)) ?_
          have bq30 := jw_kind Wm (c := c) (by omega)
          refine jt_callp (w := .inl (nI (sp_grow ((sp_move g c) (36 + 5 * c))))) jm_m162 75 (mi' := 159) (as := [.inl (nI ((sp_move g c) (36 + 5 * c)))]) (rest := [.inl (nI ((sp_move g c) (39 + 5 * c))), .inl (nI 99), .inl (nI (39 + 5 * c)), .inr (.inr (5, a, 0))]) (nxt := 120) rfl rfl jm_m159 rfl rfl (tb_grow (by omega)) ?_
          have bgr := sp_grow_le ((sp_move g c) (36 + 5 * c))
          refine jt_go jm_m162 76 1 (f' := (121, [(6, .inl (nI (sp_toc g c))), (5, .inl (nI (min (sp_ap (g (38 + 5 * c)) (sp_goal g c)) (sp_pace (g (36 + 5 * c)) (g (37 + 5 * c)) (g 2))))), (4, .inl (nI (sp_goal g c))), (3, .inl (nI (g (38 + 5 * c)))), (0, .inr (.inr (5, a, 0))), (1, .inl (nI c)), (2, .inl (nI 0))], [.inl ((nI ((sp_move g c) (39 + 5 * c))) + (nI (sp_grow ((sp_move g c) (36 + 5 * c))))), .inl (nI 99), .inl (nI (39 + 5 * c)), .inr (.inr (5, a, 0))], h9)) (P := True) rfl trivial ?_
          refine jt_ti (show ((nI ((sp_move g c) (39 + 5 * c))) + (nI (sp_grow ((sp_move g c) (36 + 5 * c))))) = nI ((sp_move g c) (39 + 5 * c) + (sp_grow ((sp_move g c) (36 + 5 * c)))) from nI_add _ _) ?_
          refine jt_callp (w := .inl (nI (min 99 ((sp_move g c) (39 + 5 * c) + (sp_grow ((sp_move g c) (36 + 5 * c))))))) jm_m162 77 (mi' := 144) (as := [.inl (nI 99), .inl (nI ((sp_move g c) (39 + 5 * c) + (sp_grow ((sp_move g c) (36 + 5 * c)))))]) (rest := [.inl (nI (39 + 5 * c)), .inr (.inr (5, a, 0))]) (nxt := 124) rfl rfl jm_m144 rfl rfl (tb_least (by omega) (by omega)) ?_
          refine jt_goM jm_m162 78 1 (pc' := 125) (L' := [(6, .inl (nI (sp_toc g c))), (5, .inl (nI (min (sp_ap (g (38 + 5 * c)) (sp_goal g c)) (sp_pace (g (36 + 5 * c)) (g (37 + 5 * c)) (g 2))))), (4, .inl (nI (sp_goal g c))), (3, .inl (nI (g (38 + 5 * c)))), (0, .inr (.inr (5, a, 0))), (1, .inl (nI c)), (2, .inl (nI 0))]) (st' := []) (m' := jm_set h9 (5, a, 0) (upd (h9 (5, a, 0)) (nI (39 + 5 * c)).toNatClampNeg (nI (min 99 ((sp_move g c) (39 + 5 * c) + (sp_grow ((sp_move g c) (36 + 5 * c)))))))) (P := vp_in (nI (39 + 5 * c)) 78 ∧ True) rfl ⟨(vp_in_nI (by omega) (by decide)), trivial⟩ (fun h10 eh10 => ?_)
          have Fh10 : jg_fr a h h10 := by rw [eh10]; exact jg_fr_set Fh9
          obtain ⟨gh10, egh10⟩ : ∃ y, y = sp_up (sp_move g c) (39 + 5 * c) (min 99 ((sp_move g c) (39 + 5 * c) + (sp_grow ((sp_move g c) (36 + 5 * c))))) := ⟨_, rfl⟩
          have Rh10 : jg_rel h10 a gh10 := by rw [eh10, egh10]; exact jg_set Rh9 (k := 39 + 5 * c) (w := min 99 ((sp_move g c) (39 + 5 * c) + (sp_grow ((sp_move g c) (36 + 5 * c))))) (nI_clamp (by omega)) rfl
          have eg : gh10 = sp_gone g c false := by rw [egh10]; rfl
          rw [eg] at Rh10
          have Wg := jw_gone (kept := false) W hc
          have hcg : c < sp_gone g c false 0 := by rw [sp_gone_ne W hc (by omega) (by omega) (by omega)]; exact hc
          refine jt_go jm_m162 79 1 (f' := (127, [(6, .inl (nI (sp_toc g c))), (5, .inl (nI (min (sp_ap (g (38 + 5 * c)) (sp_goal g c)) (sp_pace (g (36 + 5 * c)) (g (37 + 5 * c)) (g 2))))), (4, .inl (nI (sp_goal g c))), (3, .inl (nI (g (38 + 5 * c)))), (0, .inr (.inr (5, a, 0))), (1, .inl (nI c)), (2, .inl (nI 0))], [.inl (nI (sp_toc g c))], h10)) (P := True) rfl trivial ?_
          refine jt_callp (w := .inl (nI (sp_sd (sp_toc g c)))) jm_m162 80 (mi' := 154) (as := [.inl (nI (sp_toc g c))]) (rest := []) (nxt := 130) rfl rfl jm_m154 rfl rfl (tb_sideOf (by omega)) ?_
          have bq31 := sp_sd_le (sp_toc g c)
          refine jt_go jm_m162 81 1 (f' := (131, [(6, .inl (nI (sp_toc g c))), (5, .inl (nI (min (sp_ap (g (38 + 5 * c)) (sp_goal g c)) (sp_pace (g (36 + 5 * c)) (g (37 + 5 * c)) (g 2))))), (4, .inl (nI (sp_goal g c))), (3, .inl (nI (g (38 + 5 * c)))), (0, .inr (.inr (5, a, 0))), (1, .inl (nI c)), (2, .inl (nI 0))], [.inl (nI (g (38 + 5 * c))), .inl (nI (sp_sd (sp_toc g c)))], h10)) (P := True) rfl trivial ?_
          refine jt_callp (w := .inl (nI (sp_sd (g (38 + 5 * c))))) jm_m162 82 (mi' := 154) (as := [.inl (nI (g (38 + 5 * c)))]) (rest := [.inl (nI (sp_sd (sp_toc g c)))]) (nxt := 134) rfl rfl jm_m154 rfl rfl (tb_sideOf (by omega)) ?_
          have bq32 := sp_sd_le (g (38 + 5 * c))
          refine jt_niceq jm_m162 83 (a := sp_sd (sp_toc g c)) (b := sp_sd (g (38 + 5 * c))) (by omega) (by omega) (tgt := 141) (nxt := 137) rfl rfl rfl (fun c134 => ?_) (fun c134 => ?_)
          · refine jt_go jm_m162 86 3 (f' := (146, [(7, .inl (nI 0)), (6, .inl (nI (sp_toc g c))), (5, .inl (nI (min (sp_ap (g (38 + 5 * c)) (sp_goal g c)) (sp_pace (g (36 + 5 * c)) (g (37 + 5 * c)) (g 2))))), (4, .inl (nI (sp_goal g c))), (3, .inl (nI (g (38 + 5 * c)))), (0, .inr (.inr (5, a, 0))), (1, .inl (nI c)), (2, .inl (nI 0))], [.inl (nI 0)], h10)) (P := True) rfl trivial ?_
            refine jt_nifeq jm_m162 89 (by omega) (tgt := 158) (nxt := 149) rfl rfl rfl (fun c146 => ?_) (fun c146 => ?_)
            · refine jt_go jm_m162 95 1 (f' := (160, [(7, .inl (nI 0)), (6, .inl (nI (sp_toc g c))), (5, .inl (nI (min (sp_ap (g (38 + 5 * c)) (sp_goal g c)) (sp_pace (g (36 + 5 * c)) (g (37 + 5 * c)) (g 2))))), (4, .inl (nI (sp_goal g c))), (3, .inl (nI (g (38 + 5 * c)))), (0, .inr (.inr (5, a, 0))), (1, .inl (nI c)), (2, .inl (nI 0))], [.inl (nI 0)], h10)) (P := True) rfl trivial ?_
              refine jt_zret jm_m162 96 rfl (Or.inl rfl) ?_
              refine ⟨jt_lb0 (by rw [sp_gone_at W hc]; exact fun z => z c134.symm), ?_, Fh10⟩
              unfold sp_one
              rw [if_neg (by rw [sp_gone_at W hc]; exact fun z => z c134.symm)]
              exact Rh10
            · exact absurd c146 (by decide)
          · refine jt_go jm_m162 84 2 (f' := (142, [(6, .inl (nI (sp_toc g c))), (5, .inl (nI (min (sp_ap (g (38 + 5 * c)) (sp_goal g c)) (sp_pace (g (36 + 5 * c)) (g (37 + 5 * c)) (g 2))))), (4, .inl (nI (sp_goal g c))), (3, .inl (nI (g (38 + 5 * c)))), (0, .inr (.inr (5, a, 0))), (1, .inl (nI c)), (2, .inl (nI 0))], [.inl (nI 1)], h10)) (P := True) rfl trivial ?_
            refine jt_go jm_m162 87 2 (f' := (146, [(7, .inl (nI 1)), (6, .inl (nI (sp_toc g c))), (5, .inl (nI (min (sp_ap (g (38 + 5 * c)) (sp_goal g c)) (sp_pace (g (36 + 5 * c)) (g (37 + 5 * c)) (g 2))))), (4, .inl (nI (sp_goal g c))), (3, .inl (nI (g (38 + 5 * c)))), (0, .inr (.inr (5, a, 0))), (1, .inl (nI c)), (2, .inl (nI 0))], [.inl (nI 1)], h10)) (P := True) rfl trivial ?_
            refine jt_nifeq jm_m162 89 (by omega) (tgt := 158) (nxt := 149) rfl rfl rfl (fun c146 => ?_) (fun c146 => ?_)
            · exact absurd c146 (by decide)
            · refine jt_go jm_m162 90 3 (f' := (152, [(7, .inl (nI 1)), (6, .inl (nI (sp_toc g c))), (5, .inl (nI (min (sp_ap (g (38 + 5 * c)) (sp_goal g c)) (sp_pace (g (36 + 5 * c)) (g (37 + 5 * c)) (g 2))))), (4, .inl (nI (sp_goal g c))), (3, .inl (nI (g (38 + 5 * c)))), (0, .inr (.inr (5, a, 0))), (1, .inl (nI c)), (2, .inl (nI 0))], [.inl (nI (g (38 + 5 * c))), .inl (nI c), .inr (.inr (5, a, 0))], h10)) (P := True) rfl trivial ?_
              refine jt_callp (w := .inl (nI (sp_sd (g (38 + 5 * c))))) jm_m162 93 (mi' := 154) (as := [.inl (nI (g (38 + 5 * c)))]) (rest := [.inl (nI c), .inr (.inr (5, a, 0))]) (nxt := 155) rfl rfl jm_m154 rfl rfl (tb_sideOf (by omega)) ?_
              have bq33 := sp_sd_le (g (38 + 5 * c))
              refine jt_call jm_m162 94 (mi' := 161) (as := [.inr (.inr (5, a, 0)), .inl (nI c), .inl (nI (sp_sd (g (38 + 5 * c))))]) (rest := []) (nxt := 158) rfl rfl jm_m161 rfl rfl (tb_pass Rh10 Wg hcg (sp_sd_le _)) ?_
              rintro u h9 ⟨rfl, Rh9, Fh9⟩
              show jt_T 162 (158, [(7, .inl (nI 1)), (6, .inl (nI (sp_toc g c))), (5, .inl (nI (min (sp_ap (g (38 + 5 * c)) (sp_goal g c)) (sp_pace (g (36 + 5 * c)) (g (37 + 5 * c)) (g 2))))), (4, .inl (nI (sp_goal g c))), (3, .inl (nI (g (38 + 5 * c)))), (0, .inr (.inr (5, a, 0))), (1, .inl (nI c)), (2, .inl (nI 0))], [], h9) _
              have Fh9 := jg_fr_tr Fh10 Fh9
              refine jt_go jm_m162 95 1 (f' := (160, [(7, .inl (nI 1)), (6, .inl (nI (sp_toc g c))), (5, .inl (nI (min (sp_ap (g (38 + 5 * c)) (sp_goal g c)) (sp_pace (g (36 + 5 * c)) (g (37 + 5 * c)) (g 2))))), (4, .inl (nI (sp_goal g c))), (3, .inl (nI (g (38 + 5 * c)))), (0, .inr (.inr (5, a, 0))), (1, .inl (nI c)), (2, .inl (nI 0))], [.inl (nI 1)], h9)) (P := True) rfl trivial ?_
              refine jt_zret jm_m162 96 rfl (Or.inr rfl) ?_
              refine ⟨jt_lb1 (by rw [sp_gone_at W hc]; exact fun z => c134 z.symm), ?_, Fh9⟩
              unfold sp_one
              rw [if_pos (by rw [sp_gone_at W hc]; exact fun z => c134 z.symm)]
              exact Rh9
  · exact absurd c9 (by decide)
set_option maxHeartbeats 4000000 in
set_option maxRecDepth 20000 in
theorem tb_goes1 {h : jm_M} {a : Nat} {g : Nat → Nat} (R : jg_rel h a g) (W : jw g) {c : Nat} (hc : c < g 0) : jt_T 162 (0, [(0, .inr (.inr (5, a, 0))), (1, .inl (nI c)), (2, .inl (nI 1))], [], h) (fun u h' => u = some (.inl (jm_b (sp_sd (g (38 + 5 * c)) ≠ sp_sd (sp_gone g c true (38 + 5 * c))))) ∧ jg_rel h' a (sp_one g c true) ∧ jg_fr a h h') := by
  have bn := jw_n W
  have bm := jw_m W
  have bt := jw_t W
  have ba := jw_at W (c := c) (by omega)
  have bp : sp_pace (g (36 + 5 * c)) (g (37 + 5 * c)) (g 2) ≤ 8 := sp_pace_le (jw_fig W (by omega))
  have Wm := W
  have em : ∀ i, 36 ≤ i → i ≠ 38 + 5 * c → g i = g i := fun _ _ _ => rfl
  have hcm : c < g 0 := hc
  refine jt_go jm_m162 0 3 (f' := (3, [(0, .inr (.inr (5, a, 0))), (1, .inl (nI c)), (2, .inl (nI 1))], [.inl (nI 2), .inl (nI c), .inr (.inr (5, a, 0))], h)) (P := True) rfl trivial ?_
  refine jt_callp (w := .inl (nI (38 + 5 * c))) jm_m162 3 (mi' := 147) (as := [.inl (nI c), .inl (nI 2)]) (rest := [.inr (.inr (5, a, 0))]) (nxt := 6) rfl rfl jm_m147 rfl rfl (tb_ofC (k := 38 + 5 * c) (by omega)) ?_
  refine jt_go jm_m162 4 1 (f' := (7, [(0, .inr (.inr (5, a, 0))), (1, .inl (nI c)), (2, .inl (nI 1))], [.inl (h (5, a, 0) (nI (38 + 5 * c)).toNatClampNeg)], h)) (P := vp_in (nI (38 + 5 * c)) 78 ∧ True) rfl ⟨(vp_in_nI (by omega) (by decide)), trivial⟩ ?_
  refine jt_ti (show (h (5, a, 0) (nI (38 + 5 * c)).toNatClampNeg) = nI (g (38 + 5 * c)) from jg_get R (k := 38 + 5 * c) (nI_clamp (by omega)) (by omega)) ?_
  have bq1 := jw_at W (c := c) (by omega)
  refine jt_go jm_m162 5 2 (f' := (9, [(3, .inl (nI (g (38 + 5 * c)))), (0, .inr (.inr (5, a, 0))), (1, .inl (nI c)), (2, .inl (nI 1))], [.inl (nI 1)], h)) (P := True) rfl trivial ?_
  refine jt_nifeq jm_m162 7 (by omega) (tgt := 16) (nxt := 12) rfl rfl rfl (fun c9 => ?_) (fun c9 => ?_)
  · exact absurd c9 (by decide)
  · refine jt_go jm_m162 8 2 (f' := (21, [(3, .inl (nI (g (38 + 5 * c)))), (0, .inr (.inr (5, a, 0))), (1, .inl (nI c)), (2, .inl (nI 1))], [.inl (nI (g (38 + 5 * c)))], h)) (P := True) rfl trivial ?_
    refine jt_go jm_m162 13 3 (f' := (26, [(4, .inl (nI (g (38 + 5 * c)))), (3, .inl (nI (g (38 + 5 * c)))), (0, .inr (.inr (5, a, 0))), (1, .inl (nI c)), (2, .inl (nI 1))], [.inl (nI (g (38 + 5 * c))), .inl (nI (g (38 + 5 * c)))], h)) (P := True) rfl trivial ?_
    refine jt_callp (w := .inl (nI (sp_ap (g (38 + 5 * c)) (g (38 + 5 * c))))) jm_m162 16 (mi' := 145) (as := [.inl (nI (g (38 + 5 * c))), .inl (nI (g (38 + 5 * c)))]) (rest := []) (nxt := 29) rfl rfl jm_m145 rfl rfl (tb_apart (by omega) (by omega)) ?_
    have bq2 : sp_ap (g (38 + 5 * c)) (g (38 + 5 * c)) < 16 := sp_ap_lt (by omega) (by omega)
    refine jt_go jm_m162 17 5 (f' := (34, [(4, .inl (nI (g (38 + 5 * c)))), (3, .inl (nI (g (38 + 5 * c)))), (0, .inr (.inr (5, a, 0))), (1, .inl (nI c)), (2, .inl (nI 1))], [.inl (h (5, a, 0) (nI 2).toNatClampNeg), .inl (nI c), .inr (.inr (5, a, 0)), .inl (nI (sp_ap (g (38 + 5 * c)) (g (38 + 5 * c))))], h)) (P := vp_in (nI 2) 78 ∧ True) rfl ⟨(vp_in_nI (by omega) (by decide)), trivial⟩ ?_
    refine jt_ti (show (h (5, a, 0) (nI 2).toNatClampNeg) = nI (g 2) from jg_get R (k := 2) (nI_clamp (by omega)) (by omega)) ?_
    have bq3 := jw_t W
    refine jt_callp (w := .inl (nI (sp_pace (g (36 + 5 * c)) (g (37 + 5 * c)) (g 2)))) jm_m162 22 (mi' := 158) (as := [.inr (.inr (5, a, 0)), .inl (nI c), .inl (nI (g 2))]) (rest := [.inl (nI (sp_ap (g (38 + 5 * c)) (g (38 + 5 * c))))]) (nxt := 37) rfl rfl jm_m158 rfl rfl (tb_pace R W (by omega) bt) ?_
    refine jt_callp (w := .inl (nI (min (sp_ap (g (38 + 5 * c)) (g (38 + 5 * c))) (sp_pace (g (36 + 5 * c)) (g (37 + 5 * c)) (g 2))))) jm_m162 23 (mi' := 144) (as := [.inl (nI (sp_ap (g (38 + 5 * c)) (g (38 + 5 * c)))), .inl (nI (sp_pace (g (36 + 5 * c)) (g (37 + 5 * c)) (g 2)))]) (rest := []) (nxt := 40) rfl rfl jm_m144 rfl rfl (tb_least (by omega) (by omega)) ?_
    refine jt_go jm_m162 24 3 (f' := (45, [(5, .inl (nI (min (sp_ap (g (38 + 5 * c)) (g (38 + 5 * c))) (sp_pace (g (36 + 5 * c)) (g (37 + 5 * c)) (g 2))))), (4, .inl (nI (g (38 + 5 * c)))), (3, .inl (nI (g (38 + 5 * c)))), (0, .inr (.inr (5, a, 0))), (1, .inl (nI c)), (2, .inl (nI 1))], [.inl (nI (g (38 + 5 * c))), .inl (nI (g (38 + 5 * c)))], h)) (P := True) rfl trivial ?_
    refine jt_nicle jm_m162 27 (a := g (38 + 5 * c)) (b := g (38 + 5 * c)) (by omega) (by omega) (tgt := 55) (nxt := 48) rfl rfl rfl (fun c45 => ?_) (fun c45 => ?_)
    · have bap := sp_ap_ge c45
      refine jt_go jm_m162 32 3 (f' := (59, [(5, .inl (nI (min (sp_ap (g (38 + 5 * c)) (g (38 + 5 * c))) (sp_pace (g (36 + 5 * c)) (g (37 + 5 * c)) (g 2))))), (4, .inl (nI (g (38 + 5 * c)))), (3, .inl (nI (g (38 + 5 * c)))), (0, .inr (.inr (5, a, 0))), (1, .inl (nI c)), (2, .inl (nI 1))], [.inl ((nI (g (38 + 5 * c))) - (nI (min (sp_ap (g (38 + 5 * c)) (g (38 + 5 * c))) (sp_pace (g (36 + 5 * c)) (g (37 + 5 * c)) (g 2)))))], h)) (P := True) rfl trivial ?_
      refine jt_ti (show ((nI (g (38 + 5 * c))) - (nI (min (sp_ap (g (38 + 5 * c)) (g (38 + 5 * c))) (sp_pace (g (36 + 5 * c)) (g (37 + 5 * c)) (g 2))))) = nI (g (38 + 5 * c)) from by rw [nI_subN (by omega), bap]; exact congrArg nI (by omega)) ?_
      refine jt_go jm_m162 35 4 (f' := (64, [(6, .inl (nI (g (38 + 5 * c)))), (5, .inl (nI (min (sp_ap (g (38 + 5 * c)) (g (38 + 5 * c))) (sp_pace (g (36 + 5 * c)) (g (37 + 5 * c)) (g 2))))), (4, .inl (nI (g (38 + 5 * c)))), (3, .inl (nI (g (38 + 5 * c)))), (0, .inr (.inr (5, a, 0))), (1, .inl (nI c)), (2, .inl (nI 1))], [.inl (nI 2), .inl (nI c), .inr (.inr (5, a, 0))], h)) (P := True) rfl trivial ?_
      refine jt_callp (w := .inl (nI (38 + 5 * c))) jm_m162 39 (mi' := 147) (as := [.inl (nI c), .inl (nI 2)]) (rest := [.inr (.inr (5, a, 0))]) (nxt := 67) rfl rfl jm_m147 rfl rfl (tb_ofC (k := 38 + 5 * c) (by omega)) ?_
      refine jt_goM jm_m162 40 2 (pc' := 70) (L' := [(6, .inl (nI (g (38 + 5 * c)))), (5, .inl (nI (min (sp_ap (g (38 + 5 * c)) (g (38 + 5 * c))) (sp_pace (g (36 + 5 * c)) (g (37 + 5 * c)) (g 2))))), (4, .inl (nI (g (38 + 5 * c)))), (3, .inl (nI (g (38 + 5 * c)))), (0, .inr (.inr (5, a, 0))), (1, .inl (nI c)), (2, .inl (nI 1))]) (st' := []) (m' := jm_set h (5, a, 0) (upd (h (5, a, 0)) (nI (38 + 5 * c)).toNatClampNeg (nI (g (38 + 5 * c))))) (P := vp_in (nI (38 + 5 * c)) 78 ∧ True) rfl ⟨(vp_in_nI (by omega) (by decide)), trivial⟩ (fun h1 eh1 => ?_)
      have Fh1 : jg_fr a h h1 := by rw [eh1]; exact jg_fr_set jg_fr_rf
      obtain ⟨gh1, egh1⟩ : ∃ y, y = sp_up g (38 + 5 * c) (g (38 + 5 * c)) := ⟨_, rfl⟩
      have Rh1 : jg_rel h1 a gh1 := by rw [eh1, egh1]; exact jg_set R (k := 38 + 5 * c) (w := g (38 + 5 * c)) (nI_clamp (by omega)) rfl
      refine jt_go jm_m162 42 2 (f' := (73, [(6, .inl (nI (g (38 + 5 * c)))), (5, .inl (nI (min (sp_ap (g (38 + 5 * c)) (g (38 + 5 * c))) (sp_pace (g (36 + 5 * c)) (g (37 + 5 * c)) (g 2))))), (4, .inl (nI (g (38 + 5 * c)))), (3, .inl (nI (g (38 + 5 * c)))), (0, .inr (.inr (5, a, 0))), (1, .inl (nI c)), (2, .inl (nI 1))], [.inl (nI (g (38 + 5 * c))), .inl (nI (g (38 + 5 * c)))], h1)) (P := True) rfl trivial ?_
      refine jt_niceq jm_m162 44 (a := g (38 + 5 * c)) (b := g (38 + 5 * c)) (by omega) (by omega) (tgt := 95) (nxt := 76) rfl rfl rfl (fun c73 => ?_) (fun c73 => ?_)
      · have e95 : gh1 = g := by rw [egh1]; exact sp_up_self rfl
        rw [e95] at Rh1
        refine jt_go jm_m162 60 3 (f' := (98, [(6, .inl (nI (g (38 + 5 * c)))), (5, .inl (nI (min (sp_ap (g (38 + 5 * c)) (g (38 + 5 * c))) (sp_pace (g (36 + 5 * c)) (g (37 + 5 * c)) (g 2))))), (4, .inl (nI (g (38 + 5 * c)))), (3, .inl (nI (g (38 + 5 * c)))), (0, .inr (.inr (5, a, 0))), (1, .inl (nI c)), (2, .inl (nI 1))], [.inl (nI 3), .inl (nI c), .inr (.inr (5, a, 0))], h1)) (P := True) rfl trivial ?_
        refine jt_callp (w := .inl (nI (39 + 5 * c))) jm_m162 63 (mi' := 147) (as := [.inl (nI c), .inl (nI 3)]) (rest := [.inr (.inr (5, a, 0))]) (nxt := 101) rfl rfl jm_m147 rfl rfl (tb_ofC (k := 39 + 5 * c) (by omega)) ?_
        refine jt_go jm_m162 64 4 (f' := (106, [(6, .inl (nI (g (38 + 5 * c)))), (5, .inl (nI (min (sp_ap (g (38 + 5 * c)) (g (38 + 5 * c))) (sp_pace (g (36 + 5 * c)) (g (37 + 5 * c)) (g 2))))), (4, .inl (nI (g (38 + 5 * c)))), (3, .inl (nI (g (38 + 5 * c)))), (0, .inr (.inr (5, a, 0))), (1, .inl (nI c)), (2, .inl (nI 1))], [.inl (nI 3), .inl (nI c), .inr (.inr (5, a, 0)), .inl (nI 99), .inl (nI (39 + 5 * c)), .inr (.inr (5, a, 0))], h1)) (P := True) rfl trivial ?_
        refine jt_callp (w := .inl (nI (39 + 5 * c))) jm_m162 68 (mi' := 147) (as := [.inl (nI c), .inl (nI 3)]) (rest := [.inr (.inr (5, a, 0)), .inl (nI 99), .inl (nI (39 + 5 * c)), .inr (.inr (5, a, 0))]) (nxt := 109) rfl rfl jm_m147 rfl rfl (tb_ofC (k := 39 + 5 * c) (by omega)) ?_
        refine jt_go jm_m162 69 1 (f' := (110, [(6, .inl (nI (g (38 + 5 * c)))), (5, .inl (nI (min (sp_ap (g (38 + 5 * c)) (g (38 + 5 * c))) (sp_pace (g (36 + 5 * c)) (g (37 + 5 * c)) (g 2))))), (4, .inl (nI (g (38 + 5 * c)))), (3, .inl (nI (g (38 + 5 * c)))), (0, .inr (.inr (5, a, 0))), (1, .inl (nI c)), (2, .inl (nI 1))], [.inl (h1 (5, a, 0) (nI (39 + 5 * c)).toNatClampNeg), .inl (nI 99), .inl (nI (39 + 5 * c)), .inr (.inr (5, a, 0))], h1)) (P := vp_in (nI (39 + 5 * c)) 78 ∧ True) rfl ⟨(vp_in_nI (by omega) (by decide)), trivial⟩ ?_
        refine jt_ti (show (h1 (5, a, 0) (nI (39 + 5 * c)).toNatClampNeg) = nI (g (39 + 5 * c)) from jg_get Rh1 (k := 39 + 5 * c) (nI_clamp (by omega)) (by omega)) ?_
        have bq4 := jw_hair Wm (c := c) (by omega)
        refine jt_go jm_m162 70 3 (f' := (113, [(6, .inl (nI (g (38 + 5 * c)))), (5, .inl (nI (min (sp_ap (g (38 + 5 * c)) (g (38 + 5 * c))) (sp_pace (g (36 + 5 * c)) (g (37 + 5 * c)) (g 2))))), (4, .inl (nI (g (38 + 5 * c)))), (3, .inl (nI (g (38 + 5 * c)))), (0, .inr (.inr (5, a, 0))), (1, .inl (nI c)), (2, .inl (nI 1))], [.inl (nI 0), .inl (nI c), .inr (.inr (5, a, 0)), .inl (nI (g (39 + 5 * c))), .inl (nI 99), .inl (nI (39 + 5 * c)), .inr (.inr (5, a, 0))], h1)) (P := True) rfl trivial ?_
        refine jt_callp (w := .inl (nI (36 + 5 * c))) jm_m162 73 (mi' := 147) (as := [.inl (nI c), .inl (nI 0)]) (rest := [.inr (.inr (5, a, 0)), .inl (nI (g (39 + 5 * c))), .inl (nI 99), .inl (nI (39 + 5 * c)), .inr (.inr (5, a, 0))]) (nxt := 116) rfl rfl jm_m147 rfl rfl (tb_ofC (k := 36 + 5 * c) (by omega)) ?_
        refine jt_go jm_m162 74 1 (f' := (117, [(6, .inl (nI (g (38 + 5 * c)))), (5, .inl (nI (min (sp_ap (g (38 + 5 * c)) (g (38 + 5 * c))) (sp_pace (g (36 + 5 * c)) (g (37 + 5 * c)) (g 2))))), (4, .inl (nI (g (38 + 5 * c)))), (3, .inl (nI (g (38 + 5 * c)))), (0, .inr (.inr (5, a, 0))), (1, .inl (nI c)), (2, .inl (nI 1))], [.inl (h1 (5, a, 0) (nI (36 + 5 * c)).toNatClampNeg), .inl (nI (g (39 + 5 * c))), .inl (nI 99), .inl (nI (39 + 5 * c)), .inr (.inr (5, a, 0))], h1)) (P := vp_in (nI (36 + 5 * c)) 78 ∧ True) rfl ⟨(vp_in_nI (by omega) (by decide)), trivial⟩ ?_
        refine jt_ti (show (h1 (5, a, 0) (nI (36 + 5 * c)).toNatClampNeg) = nI (g (36 + 5 * c)) from jg_get Rh1 (k := 36 + 5 * c) (nI_clamp (by omega)) (by omega)) ?_
        have bq5 := jw_kind Wm (c := c) (by omega)
        refine jt_callp (w := .inl (nI (sp_grow (g (36 + 5 * c))))) jm_m162 75 (mi' := 159) (as := [.inl (nI (g (36 + 5 * c)))]) (rest := [.inl (nI (g (39 + 5 * c))), .inl (nI 99), .inl (nI (39 + 5 * c)), .inr (.inr (5, a, 0))]) (nxt := 120) rfl rfl jm_m159 rfl rfl (tb_grow (by omega)) ?_
        have bgr := sp_grow_le (g (36 + 5 * c))
        refine jt_go jm_m162 76 1 (f' := (121, [(6, .inl (nI (g (38 + 5 * c)))), (5, .inl (nI (min (sp_ap (g (38 + 5 * c)) (g (38 + 5 * c))) (sp_pace (g (36 + 5 * c)) (g (37 + 5 * c)) (g 2))))), (4, .inl (nI (g (38 + 5 * c)))), (3, .inl (nI (g (38 + 5 * c)))), (0, .inr (.inr (5, a, 0))), (1, .inl (nI c)), (2, .inl (nI 1))], [.inl ((nI (g (39 + 5 * c))) + (nI (sp_grow (g (36 + 5 * c))))), .inl (nI 99), .inl (nI (39 + 5 * c)), .inr (.inr (5, a, 0))], h1)) (P := True) rfl trivial ?_
        refine jt_ti (show ((nI (g (39 + 5 * c))) + (nI (sp_grow (g (36 + 5 * c))))) = nI (g (39 + 5 * c) + (sp_grow (g (36 + 5 * c)))) from nI_add _ _) ?_
        refine jt_callp (w := .inl (nI (min 99 (g (39 + 5 * c) + (sp_grow (g (36 + 5 * c))))))) jm_m162 77 (mi' := 144) (as := [.inl (nI 99), .inl (nI (g (39 + 5 * c) + (sp_grow (g (36 + 5 * c)))))]) (rest := [.inl (nI (39 + 5 * c)), .inr (.inr (5, a, 0))]) (nxt := 124) rfl rfl jm_m144 rfl rfl (tb_least (by omega) (by omega)) ?_
        refine jt_goM jm_m162 78 1 (pc' := 125) (L' := [(6, .inl (nI (g (38 + 5 * c)))), (5, .inl (nI (min (sp_ap (g (38 + 5 * c)) (g (38 + 5 * c))) (sp_pace (g (36 + 5 * c)) (g (37 + 5 * c)) (g 2))))), (4, .inl (nI (g (38 + 5 * c)))), (3, .inl (nI (g (38 + 5 * c)))), (0, .inr (.inr (5, a, 0))), (1, .inl (nI c)), (2, .inl (nI 1))]) (st' := []) (m' := jm_set h1 (5, a, 0) (upd (h1 (5, a, 0)) (nI (39 + 5 * c)).toNatClampNeg (nI (min 99 (g (39 + 5 * c) + (sp_grow (g (36 + 5 * c)))))))) (P := vp_in (nI (39 + 5 * c)) 78 ∧ True) rfl ⟨(vp_in_nI (by omega) (by decide)), trivial⟩ (fun h2 eh2 => ?_)
        have Fh2 : jg_fr a h h2 := by rw [eh2]; exact jg_fr_set Fh1
        obtain ⟨gh2, egh2⟩ : ∃ y, y = sp_up g (39 + 5 * c) (min 99 (g (39 + 5 * c) + (sp_grow (g (36 + 5 * c))))) := ⟨_, rfl⟩
        have Rh2 : jg_rel h2 a gh2 := by rw [eh2, egh2]; exact jg_set Rh1 (k := 39 + 5 * c) (w := min 99 (g (39 + 5 * c) + (sp_grow (g (36 + 5 * c))))) (nI_clamp (by omega)) rfl
        have eg : gh2 = sp_gone g c true := by rw [egh2]; rfl
        rw [eg] at Rh2
        have Wg := jw_gone (kept := true) W hc
        have hcg : c < sp_gone g c true 0 := by rw [sp_gone_ne W hc (by omega) (by omega) (by omega)]; exact hc
        refine jt_go jm_m162 79 1 (f' := (127, [(6, .inl (nI (g (38 + 5 * c)))), (5, .inl (nI (min (sp_ap (g (38 + 5 * c)) (g (38 + 5 * c))) (sp_pace (g (36 + 5 * c)) (g (37 + 5 * c)) (g 2))))), (4, .inl (nI (g (38 + 5 * c)))), (3, .inl (nI (g (38 + 5 * c)))), (0, .inr (.inr (5, a, 0))), (1, .inl (nI c)), (2, .inl (nI 1))], [.inl (nI (g (38 + 5 * c)))], h2)) (P := True) rfl trivial ?_
        refine jt_callp (w := .inl (nI (sp_sd (g (38 + 5 * c))))) jm_m162 80 (mi' := 154) (as := [.inl (nI (g (38 + 5 * c)))]) (rest := []) (nxt := 130) rfl rfl jm_m154 rfl rfl (tb_sideOf (by omega)) ?_
        have bq6 := sp_sd_le (g (38 + 5 * c))
        refine jt_go jm_m162 81 1 (f' := (131, [(6, .inl (nI (g (38 + 5 * c)))), (5, .inl (nI (min (sp_ap (g (38 + 5 * c)) (g (38 + 5 * c))) (sp_pace (g (36 + 5 * c)) (g (37 + 5 * c)) (g 2))))), (4, .inl (nI (g (38 + 5 * c)))), (3, .inl (nI (g (38 + 5 * c)))), (0, .inr (.inr (5, a, 0))), (1, .inl (nI c)), (2, .inl (nI 1))], [.inl (nI (g (38 + 5 * c))), .inl (nI (sp_sd (g (38 + 5 * c))))], h2)) (P := True) rfl trivial ?_
        refine jt_callp (w := .inl (nI (sp_sd (g (38 + 5 * c))))) jm_m162 82 (mi' := 154) (as := [.inl (nI (g (38 + 5 * c)))]) (rest := [.inl (nI (sp_sd (g (38 + 5 * c))))]) (nxt := 134) rfl rfl jm_m154 rfl rfl (tb_sideOf (by omega)) ?_
        have bq7 := sp_sd_le (g (38 + 5 * c))
        refine jt_niceq jm_m162 83 (a := sp_sd (g (38 + 5 * c))) (b := sp_sd (g (38 + 5 * c))) (by omega) (by omega) (tgt := 141) (nxt := 137) rfl rfl rfl (fun c134 => ?_) (fun c134 => ?_)
        · refine jt_go jm_m162 86 3 (f' := (146, [(7, .inl (nI 0)), (6, .inl (nI (g (38 + 5 * c)))), (5, .inl (nI (min (sp_ap (g (38 + 5 * c)) (g (38 + 5 * c))) (sp_pace (g (36 + 5 * c)) (g (37 + 5 * c)) (g 2))))), (4, .inl (nI (g (38 + 5 * c)))), (3, .inl (nI (g (38 + 5 * c)))), (0, .inr (.inr (5, a, 0))), (1, .inl (nI c)), (2, .inl (nI 1))], [.inl (nI 0)], h2)) (P := True) rfl trivial ?_
          refine jt_nifeq jm_m162 89 (by omega) (tgt := 158) (nxt := 149) rfl rfl rfl (fun c146 => ?_) (fun c146 => ?_)
          · refine jt_go jm_m162 95 1 (f' := (160, [(7, .inl (nI 0)), (6, .inl (nI (g (38 + 5 * c)))), (5, .inl (nI (min (sp_ap (g (38 + 5 * c)) (g (38 + 5 * c))) (sp_pace (g (36 + 5 * c)) (g (37 + 5 * c)) (g 2))))), (4, .inl (nI (g (38 + 5 * c)))), (3, .inl (nI (g (38 + 5 * c)))), (0, .inr (.inr (5, a, 0))), (1, .inl (nI c)), (2, .inl (nI 1))], [.inl (nI 0)], h2)) (P := True) rfl trivial ?_
            refine jt_zret jm_m162 96 rfl (Or.inl rfl) ?_
            refine ⟨jt_lb0 (by rw [sp_gone_atk]; exact fun z => z c134.symm), ?_, Fh2⟩
            unfold sp_one
            rw [if_neg (by rw [sp_gone_atk]; exact fun z => z c134.symm)]
            exact Rh2
          · exact absurd c146 (by decide)
        · refine jt_go jm_m162 84 2 (f' := (142, [(6, .inl (nI (g (38 + 5 * c)))), (5, .inl (nI (min (sp_ap (g (38 + 5 * c)) (g (38 + 5 * c))) (sp_pace (g (36 + 5 * c)) (g (37 + 5 * c)) (g 2))))), (4, .inl (nI (g (38 + 5 * c)))), (3, .inl (nI (g (38 + 5 * c)))), (0, .inr (.inr (5, a, 0))), (1, .inl (nI c)), (2, .inl (nI 1))], [.inl (nI 1)], h2)) (P := True) rfl trivial ?_
          refine jt_go jm_m162 87 2 (f' := (146, [(7, .inl (nI 1)), (6, .inl (nI (g (38 + 5 * c)))), (5, .inl (nI (min (sp_ap (g (38 + 5 * c)) (g (38 + 5 * c))) (sp_pace (g (36 + 5 * c)) (g (37 + 5 * c)) (g 2))))), (4, .inl (nI (g (38 + 5 * c)))), (3, .inl (nI (g (38 + 5 * c)))), (0, .inr (.inr (5, a, 0))), (1, .inl (nI c)), (2, .inl (nI 1))], [.inl (nI 1)], h2)) (P := True) rfl trivial ?_
          refine jt_nifeq jm_m162 89 (by omega) (tgt := 158) (nxt := 149) rfl rfl rfl (fun c146 => ?_) (fun c146 => ?_)
          · exact absurd c146 (by decide)
          · refine jt_go jm_m162 90 3 (f' := (152, [(7, .inl (nI 1)), (6, .inl (nI (g (38 + 5 * c)))), (5, .inl (nI (min (sp_ap (g (38 + 5 * c)) (g (38 + 5 * c))) (sp_pace (g (36 + 5 * c)) (g (37 + 5 * c)) (g 2))))), (4, .inl (nI (g (38 + 5 * c)))), (3, .inl (nI (g (38 + 5 * c)))), (0, .inr (.inr (5, a, 0))), (1, .inl (nI c)), (2, .inl (nI 1))], [.inl (nI (g (38 + 5 * c))), .inl (nI c), .inr (.inr (5, a, 0))], h2)) (P := True) rfl trivial ?_
            refine jt_callp (w := .inl (nI (sp_sd (g (38 + 5 * c))))) jm_m162 93 (mi' := 154) (as := [.inl (nI (g (38 + 5 * c)))]) (rest := [.inl (nI c), .inr (.inr (5, a, 0))]) (nxt := 155) rfl rfl jm_m154 rfl rfl (tb_sideOf (by omega)) ?_
            have bq8 := sp_sd_le (g (38 + 5 * c))
            refine jt_call jm_m162 94 (mi' := 161) (as := [.inr (.inr (5, a, 0)), .inl (nI c), .inl (nI (sp_sd (g (38 + 5 * c))))]) (rest := []) (nxt := 158) rfl rfl jm_m161 rfl rfl (tb_pass Rh2 Wg hcg (sp_sd_le _)) ?_
            rintro u h9 ⟨rfl, Rh9, Fh9⟩
            show jt_T 162 (158, [(7, .inl (nI 1)), (6, .inl (nI (g (38 + 5 * c)))), (5, .inl (nI (min (sp_ap (g (38 + 5 * c)) (g (38 + 5 * c))) (sp_pace (g (36 + 5 * c)) (g (37 + 5 * c)) (g 2))))), (4, .inl (nI (g (38 + 5 * c)))), (3, .inl (nI (g (38 + 5 * c)))), (0, .inr (.inr (5, a, 0))), (1, .inl (nI c)), (2, .inl (nI 1))], [], h9) _
            have Fh9 := jg_fr_tr Fh2 Fh9
            refine jt_go jm_m162 95 1 (f' := (160, [(7, .inl (nI 1)), (6, .inl (nI (g (38 + 5 * c)))), (5, .inl (nI (min (sp_ap (g (38 + 5 * c)) (g (38 + 5 * c))) (sp_pace (g (36 + 5 * c)) (g (37 + 5 * c)) (g 2))))), (4, .inl (nI (g (38 + 5 * c)))), (3, .inl (nI (g (38 + 5 * c)))), (0, .inr (.inr (5, a, 0))), (1, .inl (nI c)), (2, .inl (nI 1))], [.inl (nI 1)], h9)) (P := True) rfl trivial ?_
            refine jt_zret jm_m162 96 rfl (Or.inr rfl) ?_
            refine ⟨jt_lb1 (by rw [sp_gone_atk]; exact fun z => c134 z.symm), ?_, Fh9⟩
            unfold sp_one
            rw [if_pos (by rw [sp_gone_atk]; exact fun z => c134 z.symm)]
            exact Rh9
      · exact absurd rfl c73
    · have bap := sp_ap_l c45
      exact absurd c45 (Nat.lt_irrefl _)
end
section
/-! REFERENCE: hours; what is counted. -/
theorem jx_nlt (a b : Nat) : True := trivial
set_option maxRecDepth 100000 in
theorem jx_orp : ∀ P, P < 64 → ∀ p, p < 6 → P < 2 ^ p → ∀ v, v < 2 → nI P ||| (nI v <<< (nI p &&& 31)) = nI (P + v * 2 ^ p) := by decide +kernel
/-- the men that have passed among the first k, as bits -/
def sp_ps (g : Nat → Nat) : Nat → Nat
  | 0 => 0
  | k + 1 => sp_ps g k + g (67 + 2 * k) * 2 ^ k
theorem sp_ps_lt {g : Nat → Nat} (W : jw g) : ∀ k, k ≤ 6 → sp_ps g k < 2 ^ k := by
  intro k
  induction k with
  | zero => intro _; exact Nat.one_pos
  | succ k ih =>
    intro hk
    have h1 := ih (by omega)
    have h2 := jw_pas W (c := k) (by omega)
    show sp_ps g k + g (67 + 2 * k) * 2 ^ k < 2 ^ (k + 1)
    rw [Nat.pow_succ]
    rcases (show g (67 + 2 * k) = 0 ∨ g (67 + 2 * k) = 1 by omega) with q | q <;> rw [q] <;> omega
theorem sp_ps_pb {g : Nat → Nat} (W : jw g) : sp_ps g (g 1) = sp_pb g := by
  have hm := jw_m W
  have h0 : g 1 ≤ 0 → g 67 = 0 := fun h => jw_pas0 W (p := 0) (by decide) h
  have h1 : g 1 ≤ 1 → g 69 = 0 := fun h => jw_pas0 W (p := 1) (by decide) h
  have h2 : g 1 ≤ 2 → g 71 = 0 := fun h => jw_pas0 W (p := 2) (by decide) h
  have h3 : g 1 ≤ 3 → g 73 = 0 := fun h => jw_pas0 W (p := 3) (by decide) h
  have h4 : g 1 ≤ 4 → g 75 = 0 := fun h => jw_pas0 W (p := 4) (by decide) h
  have h5 : g 1 ≤ 5 → g 77 = 0 := fun h => jw_pas0 W (p := 5) (by decide) h
  rcases (show g 1 = 0 ∨ g 1 = 1 ∨ g 1 = 2 ∨ g 1 = 3 ∨ g 1 = 4 ∨ g 1 = 5 ∨ g 1 = 6 by omega) with q | q | q | q | q | q | q <;> simp only [q, sp_ps, sp_pb, Nat.reduceMul, Nat.reduceAdd, Nat.reducePow] <;> omega
set_option maxHeartbeats 4000000 in
set_option maxRecDepth 20000 in
theorem tb_hour_l0 {h : jm_M} {a : Nat} {g : Nat → Nat} (W : jw g) : ∀ c, c ≤ g 0 → ∀ hm : jm_M, (jg_rel hm a (sp_cats g false c).1) → (jg_fr a h hm) → jt_T 163 (4, [(0, .inr (.inr (5, a, 0))), (1, .inl (nI 0)), (2, .inl (nI ((sp_cats g false c).2))), (3, .inl (nI c))], [], hm) (fun u h' => u = some (.inl (nI (sp_set g false))) ∧ jg_rel h' a (sp_hour g false) ∧ jg_fr a h h') := jx_up (P := fun c => ∀ hm : jm_M, (jg_rel hm a (sp_cats g false c).1) → (jg_fr a h hm) → jt_T 163 (4, [(0, .inr (.inr (5, a, 0))), (1, .inl (nI 0)), (2, .inl (nI ((sp_cats g false c).2))), (3, .inl (nI c))], [], hm) (fun u h' => u = some (.inl (nI (sp_set g false))) ∧ jg_rel h' a (sp_hour g false) ∧ jg_fr a h h')) (fun c hk nx hm Rm Fm => by
  have wc := jw_cats W (kept := false) c hk
  obtain ⟨gc, egc⟩ : ∃ y, y = (sp_cats g false c).1 := ⟨_, rfl⟩
  obtain ⟨sc, esc⟩ : ∃ y, y = (sp_cats g false c).2 := ⟨_, rfl⟩
  rw [← egc, ← esc] at wc
  rw [← egc] at Rm
  have Wc := wc.1
  have e0 := wc.2.1 0 (by decide)
  have e2 := wc.2.1 2 (by decide)
  have bn := jw_n W
  have bt := jw_t Wc
  · rw [← esc]
    show jt_T 163 (4, [(0, .inr (.inr (5, a, 0))), (1, .inl (nI 0)), (2, .inl (nI sc)), (3, .inl (nI c))], [], hm) _
    refine jt_go jm_m163 4 4 (f' := (8, [(0, .inr (.inr (5, a, 0))), (1, .inl (nI 0)), (2, .inl (nI sc)), (3, .inl (nI c))], [.inl (hm (5, a, 0) (nI 0).toNatClampNeg), .inl (nI c)], hm)) (P := vp_in (nI 0) 78 ∧ True) rfl ⟨(vp_in_nI (by omega) (by decide)), trivial⟩ ?_
    refine jt_ti (show (hm (5, a, 0) (nI 0).toNatClampNeg) = nI (gc 0) from jg_get Rm (k := 0) (nI_clamp (by omega)) (by omega)) ?_
    have bq1 := jw_n Wc
    refine jt_nicge jm_m163 8 (a := c) (b := gc 0) (by omega) (by omega) (tgt := 36) (nxt := 11) rfl rfl rfl (fun c8 => ?_) (fun c8 => ?_)
    · refine jt_go jm_m163 24 5 (f' := (41, [(0, .inr (.inr (5, a, 0))), (1, .inl (nI 0)), (2, .inl (nI sc)), (3, .inl (nI c))], [.inl (hm (5, a, 0) (nI 2).toNatClampNeg), .inl (nI 2), .inr (.inr (5, a, 0))], hm)) (P := vp_in (nI 2) 78 ∧ True) rfl ⟨(vp_in_nI (by omega) (by decide)), trivial⟩ ?_
      refine jt_ti (show (hm (5, a, 0) (nI 2).toNatClampNeg) = nI (gc 2) from jg_get Rm (k := 2) (nI_clamp (by omega)) (by omega)) ?_
      have bq2 := jw_t Wc
      refine jt_go jm_m163 29 2 (f' := (43, [(0, .inr (.inr (5, a, 0))), (1, .inl (nI 0)), (2, .inl (nI sc)), (3, .inl (nI c))], [.inl ((nI (gc 2)) + (nI 1)), .inl (nI 2), .inr (.inr (5, a, 0))], hm)) (P := True) rfl trivial ?_
      refine jt_ti (show ((nI (gc 2)) + (nI 1)) = nI (gc 2 + 1) from nI_add _ _) ?_
      refine jt_go jm_m163 31 2 (f' := (46, [(0, .inr (.inr (5, a, 0))), (1, .inl (nI 0)), (2, .inl (nI sc)), (3, .inl (nI c))], [.inl ((nI (gc 2 + 1)) - (nI (gc 2 + 1)) / (nI 24) * (nI 24)), .inl (nI 2), .inr (.inr (5, a, 0))], hm)) (P := ¬ (nI 24) = 0 ∧ True) rfl ⟨(by decide), trivial⟩ ?_
      refine jt_ti (show ((nI (gc 2 + 1)) - (nI (gc 2 + 1)) / (nI 24) * (nI 24)) = nI ((gc 2 + 1) % 24) from jx_r24 _ (by omega)) ?_
      refine jt_goM jm_m163 33 1 (pc' := 47) (L' := [(0, .inr (.inr (5, a, 0))), (1, .inl (nI 0)), (2, .inl (nI sc)), (3, .inl (nI c))]) (st' := []) (m' := jm_set hm (5, a, 0) (upd (hm (5, a, 0)) (nI 2).toNatClampNeg (nI ((gc 2 + 1) % 24)))) (P := vp_in (nI 2) 78 ∧ True) rfl ⟨(vp_in_nI (by omega) (by decide)), trivial⟩ (fun h1 eh1 => ?_)
      have Fh1 : jg_fr a h h1 := by rw [eh1]; exact jg_fr_set Fm
      obtain ⟨gh1, egh1⟩ : ∃ y, y = sp_up gc (2) ((gc 2 + 1) % 24) := ⟨_, rfl⟩
      have Rh1 : jg_rel h1 a gh1 := by rw [eh1, egh1]; exact jg_set Rm (k := 2) (w := (gc 2 + 1) % 24) (nI_clamp (by omega)) rfl
      have e46 : gh1 2 = (gc 2 + 1) % 24 := by rw [egh1]; exact sp_up_eq rfl
      have b46 : (gc 2 + 1) % 24 < 24 := Nat.mod_lt _ (by decide)
      refine jt_go jm_m163 34 4 (f' := (51, [(0, .inr (.inr (5, a, 0))), (1, .inl (nI 0)), (2, .inl (nI sc)), (3, .inl (nI c))], [.inl (h1 (5, a, 0) (nI 3).toNatClampNeg), .inl (nI 3), .inr (.inr (5, a, 0))], h1)) (P := vp_in (nI 3) 78 ∧ True) rfl ⟨(vp_in_nI (by omega) (by decide)), trivial⟩ ?_
      refine jt_ti (show (h1 (5, a, 0) (nI 3).toNatClampNeg) = nI (gh1 3) from jg_get Rh1 (k := 3) (nI_clamp (by omega)) (by omega)) ?_
      refine jt_go jm_m163 38 3 (f' := (54, [(0, .inr (.inr (5, a, 0))), (1, .inl (nI 0)), (2, .inl (nI sc)), (3, .inl (nI c))], [.inl (h1 (5, a, 0) (nI 2).toNatClampNeg), .inl (nI (gh1 3)), .inl (nI 3), .inr (.inr (5, a, 0))], h1)) (P := vp_in (nI 2) 78 ∧ True) rfl ⟨(vp_in_nI (by omega) (by decide)), trivial⟩ ?_
      refine jt_ti (show (h1 (5, a, 0) (nI 2).toNatClampNeg) = nI (gh1 2) from jg_get Rh1 (k := 2) (nI_clamp (by omega)) (by omega)) ?_
      refine jt_nifne jm_m163 41 (by omega) (tgt := 61) (nxt := 57) rfl rfl rfl (fun c54 => ?_) (fun c54 => ?_)
      · refine jt_go jm_m163 44 2 (f' := (63, [(0, .inr (.inr (5, a, 0))), (1, .inl (nI 0)), (2, .inl (nI sc)), (3, .inl (nI c))], [.inl ((nI (gh1 3)) + (nI 0)), .inl (nI 3), .inr (.inr (5, a, 0))], h1)) (P := True) rfl trivial ?_
        refine jt_ti (show ((nI (gh1 3)) + (nI 0)) = nI (gh1 3) from Int32.add_zero _) ?_
        refine jt_goM jm_m163 46 1 (pc' := 64) (L' := [(0, .inr (.inr (5, a, 0))), (1, .inl (nI 0)), (2, .inl (nI sc)), (3, .inl (nI c))]) (st' := []) (m' := jm_set h1 (5, a, 0) (upd (h1 (5, a, 0)) (nI 3).toNatClampNeg (nI (gh1 3)))) (P := vp_in (nI 3) 78 ∧ True) rfl ⟨(vp_in_nI (by omega) (by decide)), trivial⟩ (fun h2 eh2 => ?_)
        have Fh2 : jg_fr a h h2 := by rw [eh2]; exact jg_fr_set Fh1
        obtain ⟨gh2, egh2⟩ : ∃ y, y = sp_up gh1 (3) (gh1 3) := ⟨_, rfl⟩
        have Rh2 : jg_rel h2 a gh2 := by rw [eh2, egh2]; exact jg_set Rh1 (k := 3) (w := gh1 3) (nI_clamp (by omega)) rfl
        refine jt_go jm_m163 47 1 (f' := (65, [(0, .inr (.inr (5, a, 0))), (1, .inl (nI 0)), (2, .inl (nI sc)), (3, .inl (nI c))], [.inl (nI sc)], h2)) (P := True) rfl trivial ?_
        refine jt_iret jm_m163 48 rfl ?_
        have e : c = g 0 := by omega
        subst e
        refine ⟨jt_ln (by unfold sp_set; exact esc), ?_, Fh2⟩
        unfold sp_hour
        rw [← egc]
        have ez : gh2 = sp_clock gc := by unfold sp_clock; rw [if_neg (by omega), egh2, sp_up_self (g := gh1) (k := 3) rfl, egh1, Nat.mod_eq_of_lt (by omega)]
        rw [← ez]
        exact Rh2
      · refine jt_go jm_m163 42 2 (f' := (62, [(0, .inr (.inr (5, a, 0))), (1, .inl (nI 0)), (2, .inl (nI sc)), (3, .inl (nI c))], [.inl (nI 1), .inl (nI (gh1 3)), .inl (nI 3), .inr (.inr (5, a, 0))], h1)) (P := True) rfl trivial ?_
        refine jt_go jm_m163 45 1 (f' := (63, [(0, .inr (.inr (5, a, 0))), (1, .inl (nI 0)), (2, .inl (nI sc)), (3, .inl (nI c))], [.inl ((nI (gh1 3)) + (nI 1)), .inl (nI 3), .inr (.inr (5, a, 0))], h1)) (P := True) rfl trivial ?_
        refine jt_ti (show ((nI (gh1 3)) + (nI 1)) = nI (gh1 3 + 1) from nI_add _ _) ?_
        refine jt_goM jm_m163 46 1 (pc' := 64) (L' := [(0, .inr (.inr (5, a, 0))), (1, .inl (nI 0)), (2, .inl (nI sc)), (3, .inl (nI c))]) (st' := []) (m' := jm_set h1 (5, a, 0) (upd (h1 (5, a, 0)) (nI 3).toNatClampNeg (nI (gh1 3 + 1)))) (P := vp_in (nI 3) 78 ∧ True) rfl ⟨(vp_in_nI (by omega) (by decide)), trivial⟩ (fun h3 eh3 => ?_)
        have Fh3 : jg_fr a h h3 := by rw [eh3]; exact jg_fr_set Fh1
        obtain ⟨gh3, egh3⟩ : ∃ y, y = sp_up gh1 (3) (gh1 3 + 1) := ⟨_, rfl⟩
        have Rh3 : jg_rel h3 a gh3 := by rw [eh3, egh3]; exact jg_set Rh1 (k := 3) (w := gh1 3 + 1) (nI_clamp (by omega)) rfl
        refine jt_go jm_m163 47 1 (f' := (65, [(0, .inr (.inr (5, a, 0))), (1, .inl (nI 0)), (2, .inl (nI sc)), (3, .inl (nI c))], [.inl (nI sc)], h3)) (P := True) rfl trivial ?_
        refine jt_iret jm_m163 48 rfl ?_
        have e : c = g 0 := by omega
        subst e
        refine ⟨jt_ln (by unfold sp_set; exact esc), ?_, Fh3⟩
        unfold sp_hour
        rw [← egc]
        have e3 : gh1 3 = gc 3 := by rw [egh1]; exact sp_up_ne (by decide)
        have ez : gh3 = sp_clock gc := by unfold sp_clock; rw [if_pos (by omega), egh3, e3, egh1, show (gc 2 + 1) % 24 = 0 by omega]
        rw [← ez]
        exact Rh3
    · refine jt_go jm_m163 9 4 (f' := (15, [(0, .inr (.inr (5, a, 0))), (1, .inl (nI 0)), (2, .inl (nI sc)), (3, .inl (nI c))], [.inl (nI 0), .inl (nI c), .inr (.inr (5, a, 0)), .inl (nI sc)], hm)) (P := True) rfl trivial ?_
      refine jt_call jm_m163 13 (mi' := 162) (as := [.inr (.inr (5, a, 0)), .inl (nI c), .inl (nI 0)]) (rest := [.inl (nI sc)]) (nxt := 18) rfl rfl jm_m162 rfl rfl (tb_goes0 Rm Wc (by omega)) ?_
      rintro u h1 ⟨rfl, Rh1, Fh1⟩
      show jt_T 163 (18, [(0, .inr (.inr (5, a, 0))), (1, .inl (nI 0)), (2, .inl (nI sc)), (3, .inl (nI c))], [.inl (jm_b (sp_sd (gc (38 + 5 * c)) ≠ sp_sd (sp_gone gc c false (38 + 5 * c)))), .inl (nI sc)], h1) _
      refine jt_ifbeq jm_m163 14 (tgt := 27) (nxt := 21) rfl rfl rfl (fun c18 => ?_) (fun c18 => ?_)
      · refine jt_go jm_m163 19 2 (f' := (29, [(0, .inr (.inr (5, a, 0))), (1, .inl (nI 0)), (2, .inl (nI sc)), (3, .inl (nI c))], [.inl ((nI sc) ||| (nI 0))], h1)) (P := True) rfl trivial ?_
        refine jt_ti (show ((nI sc) ||| (nI 0)) = nI sc from jx_or0 _) ?_
        refine jt_go jm_m163 21 1 (f' := (30, [(2, .inl (nI sc)), (0, .inr (.inr (5, a, 0))), (1, .inl (nI 0)), (3, .inl (nI c))], [], h1)) (P := True) rfl trivial ?_
        refine jt_inc jm_m163 22 (c := c) (L' := [(3, .inl (nI (c + 1))), (2, .inl (nI sc)), (0, .inr (.inr (5, a, 0))), (1, .inl (nI 0))]) rfl rfl rfl rfl ?_
        refine jt_go jm_m163 23 1 (f' := (4, [(3, .inl (nI (c + 1))), (2, .inl (nI sc)), (0, .inr (.inr (5, a, 0))), (1, .inl (nI 0))], [], h1)) (P := True) rfl trivial ?_
        refine jt_pick (L' := [(0, .inr (.inr (5, a, 0))), (1, .inl (nI 0)), (2, .inl (nI sc)), (3, .inl (nI (c + 1)))]) [2, 3, 1, 0] rfl ?_
        have e1 : (sp_cats g false (c + 1)).1 = sp_one gc c false := by show sp_one _ c false = _; rw [← egc]
        have e2 : (sp_cats g false (c + 1)).2 = sc := by show (if _ then _ else _) = _; rw [← egc, ← esc, if_neg c18]
        have q := nx (by omega) h1 (by rw [e1]; exact Rh1) (jg_fr_tr Fm Fh1)
        rw [e2] at q
        exact q
      · refine jt_go jm_m163 15 4 (f' := (28, [(0, .inr (.inr (5, a, 0))), (1, .inl (nI 0)), (2, .inl (nI sc)), (3, .inl (nI c))], [.inl ((nI 1) <<< ((nI c) &&& 31)), .inl (nI sc)], h1)) (P := True) rfl trivial ?_
        refine jt_go jm_m163 20 1 (f' := (29, [(0, .inr (.inr (5, a, 0))), (1, .inl (nI 0)), (2, .inl (nI sc)), (3, .inl (nI c))], [.inl ((nI sc) ||| ((nI 1) <<< ((nI c) &&& 31)))], h1)) (P := True) rfl trivial ?_
        refine jt_ti (show ((nI sc) ||| ((nI 1) <<< ((nI c) &&& 31))) = nI (sc + 2 ^ c) from jx_orb _ (by have := jx_p32 (c := c) (by omega); omega) _ (by omega) (by rw [Nat.div_eq_of_lt wc.2.2])) ?_
        refine jt_go jm_m163 21 1 (f' := (30, [(2, .inl (nI (sc + 2 ^ c))), (0, .inr (.inr (5, a, 0))), (1, .inl (nI 0)), (3, .inl (nI c))], [], h1)) (P := True) rfl trivial ?_
        refine jt_inc jm_m163 22 (c := c) (L' := [(3, .inl (nI (c + 1))), (2, .inl (nI (sc + 2 ^ c))), (0, .inr (.inr (5, a, 0))), (1, .inl (nI 0))]) rfl rfl rfl rfl ?_
        refine jt_go jm_m163 23 1 (f' := (4, [(3, .inl (nI (c + 1))), (2, .inl (nI (sc + 2 ^ c))), (0, .inr (.inr (5, a, 0))), (1, .inl (nI 0))], [], h1)) (P := True) rfl trivial ?_
        refine jt_pick (L' := [(0, .inr (.inr (5, a, 0))), (1, .inl (nI 0)), (2, .inl (nI (sc + 2 ^ c))), (3, .inl (nI (c + 1)))]) [2, 3, 1, 0] rfl ?_
        have e1 : (sp_cats g false (c + 1)).1 = sp_one gc c false := by show sp_one _ c false = _; rw [← egc]
        have e2 : (sp_cats g false (c + 1)).2 = sc + 2 ^ c := by show (if _ then _ else _) = _; rw [← egc, ← esc, if_pos c18]
        have q := nx (by omega) h1 (by rw [e1]; exact Rh1) (jg_fr_tr Fm Fh1)
        rw [e2] at q
        exact q)
set_option maxHeartbeats 4000000 in
set_option maxRecDepth 20000 in
theorem tb_hour0 {h : jm_M} {a : Nat} {g : Nat → Nat} (R : jg_rel h a g) (W : jw g)  : jt_T 163 (0, [(0, .inr (.inr (5, a, 0))), (1, .inl (nI 0))], [], h) (fun u h' => u = some (.inl (nI (sp_set g false))) ∧ jg_rel h' a (sp_hour g false) ∧ jg_fr a h h') := by
  refine jt_go jm_m163 0 4 (f' := (4, [(3, .inl (nI 0)), (2, .inl (nI 0)), (0, .inr (.inr (5, a, 0))), (1, .inl (nI 0))], [], h)) (P := True) rfl trivial ?_
  refine jt_pick (L' := [(0, .inr (.inr (5, a, 0))), (1, .inl (nI 0)), (2, .inl (nI 0)), (3, .inl (nI 0))]) [2, 3, 1, 0] rfl ?_
  exact tb_hour_l0 W 0 (Nat.zero_le _) h R jg_fr_rf
set_option maxHeartbeats 4000000 in
set_option maxRecDepth 20000 in
theorem tb_hour_l1 {h : jm_M} {a : Nat} {g : Nat → Nat} (W : jw g) : ∀ c, c ≤ g 0 → ∀ hm : jm_M, (jg_rel hm a (sp_cats g true c).1) → (jg_fr a h hm) → jt_T 163 (4, [(0, .inr (.inr (5, a, 0))), (1, .inl (nI 1)), (2, .inl (nI ((sp_cats g true c).2))), (3, .inl (nI c))], [], hm) (fun u h' => u = some (.inl (nI (sp_set g true))) ∧ jg_rel h' a (sp_hour g true) ∧ jg_fr a h h') := jx_up (P := fun c => ∀ hm : jm_M, (jg_rel hm a (sp_cats g true c).1) → (jg_fr a h hm) → jt_T 163 (4, [(0, .inr (.inr (5, a, 0))), (1, .inl (nI 1)), (2, .inl (nI ((sp_cats g true c).2))), (3, .inl (nI c))], [], hm) (fun u h' => u = some (.inl (nI (sp_set g true))) ∧ jg_rel h' a (sp_hour g true) ∧ jg_fr a h h')) (fun c hk nx hm Rm Fm => by
  have wc := jw_cats W (kept := true) c hk
  obtain ⟨gc, egc⟩ : ∃ y, y = (sp_cats g true c).1 := ⟨_, rfl⟩
  obtain ⟨sc, esc⟩ : ∃ y, y = (sp_cats g true c).2 := ⟨_, rfl⟩
  rw [← egc, ← esc] at wc
  rw [← egc] at Rm
  have Wc := wc.1
  have e0 := wc.2.1 0 (by decide)
  have e2 := wc.2.1 2 (by decide)
  have bn := jw_n W
  have bt := jw_t Wc
  · rw [← esc]
    show jt_T 163 (4, [(0, .inr (.inr (5, a, 0))), (1, .inl (nI 1)), (2, .inl (nI sc)), (3, .inl (nI c))], [], hm) _
    refine jt_go jm_m163 4 4 (f' := (8, [(0, .inr (.inr (5, a, 0))), (1, .inl (nI 1)), (2, .inl (nI sc)), (3, .inl (nI c))], [.inl (hm (5, a, 0) (nI 0).toNatClampNeg), .inl (nI c)], hm)) (P := vp_in (nI 0) 78 ∧ True) rfl ⟨(vp_in_nI (by omega) (by decide)), trivial⟩ ?_
    refine jt_ti (show (hm (5, a, 0) (nI 0).toNatClampNeg) = nI (gc 0) from jg_get Rm (k := 0) (nI_clamp (by omega)) (by omega)) ?_
    have bq1 := jw_n Wc
    refine jt_nicge jm_m163 8 (a := c) (b := gc 0) (by omega) (by omega) (tgt := 36) (nxt := 11) rfl rfl rfl (fun c8 => ?_) (fun c8 => ?_)
    · refine jt_go jm_m163 24 5 (f' := (41, [(0, .inr (.inr (5, a, 0))), (1, .inl (nI 1)), (2, .inl (nI sc)), (3, .inl (nI c))], [.inl (hm (5, a, 0) (nI 2).toNatClampNeg), .inl (nI 2), .inr (.inr (5, a, 0))], hm)) (P := vp_in (nI 2) 78 ∧ True) rfl ⟨(vp_in_nI (by omega) (by decide)), trivial⟩ ?_
      refine jt_ti (show (hm (5, a, 0) (nI 2).toNatClampNeg) = nI (gc 2) from jg_get Rm (k := 2) (nI_clamp (by omega)) (by omega)) ?_
      have bq2 := jw_t Wc
      refine jt_go jm_m163 29 2 (f' := (43, [(0, .inr (.inr (5, a, 0))), (1, .inl (nI 1)), (2, .inl (nI sc)), (3, .inl (nI c))], [.inl ((nI (gc 2)) + (nI 1)), .inl (nI 2), .inr (.inr (5, a, 0))], hm)) (P := True) rfl trivial ?_
      refine jt_ti (show ((nI (gc 2)) + (nI 1)) = nI (gc 2 + 1) from nI_add _ _) ?_
      refine jt_go jm_m163 31 2 (f' := (46, [(0, .inr (.inr (5, a, 0))), (1, .inl (nI 1)), (2, .inl (nI sc)), (3, .inl (nI c))], [.inl ((nI (gc 2 + 1)) - (nI (gc 2 + 1)) / (nI 24) * (nI 24)), .inl (nI 2), .inr (.inr (5, a, 0))], hm)) (P := ¬ (nI 24) = 0 ∧ True) rfl ⟨(by decide), trivial⟩ ?_
      refine jt_ti (show ((nI (gc 2 + 1)) - (nI (gc 2 + 1)) / (nI 24) * (nI 24)) = nI ((gc 2 + 1) % 24) from jx_r24 _ (by omega)) ?_
      refine jt_goM jm_m163 33 1 (pc' := 47) (L' := [(0, .inr (.inr (5, a, 0))), (1, .inl (nI 1)), (2, .inl (nI sc)), (3, .inl (nI c))]) (st' := []) (m' := jm_set hm (5, a, 0) (upd (hm (5, a, 0)) (nI 2).toNatClampNeg (nI ((gc 2 + 1) % 24)))) (P := vp_in (nI 2) 78 ∧ True) rfl ⟨(vp_in_nI (by omega) (by decide)), trivial⟩ (fun h1 eh1 => ?_)
      have Fh1 : jg_fr a h h1 := by rw [eh1]; exact jg_fr_set Fm
      obtain ⟨gh1, egh1⟩ : ∃ y, y = sp_up gc (2) ((gc 2 + 1) % 24) := ⟨_, rfl⟩
      have Rh1 : jg_rel h1 a gh1 := by rw [eh1, egh1]; exact jg_set Rm (k := 2) (w := (gc 2 + 1) % 24) (nI_clamp (by omega)) rfl
      have e46 : gh1 2 = (gc 2 + 1) % 24 := by rw [egh1]; exact sp_up_eq rfl
      have b46 : (gc 2 + 1) % 24 < 24 := Nat.mod_lt _ (by decide)
      refine jt_go jm_m163 34 4 (f' := (51, [(0, .inr (.inr (5, a, 0))), (1, .inl (nI 1)), (2, .inl (nI sc)), (3, .inl (nI c))], [.inl (h1 (5, a, 0) (nI 3).toNatClampNeg), .inl (nI 3), .inr (.inr (5, a, 0))], h1)) (P := vp_in (nI 3) 78 ∧ True) rfl ⟨(vp_in_nI (by omega) (by decide)), trivial⟩ ?_
      refine jt_ti (show (h1 (5, a, 0) (nI 3).toNatClampNeg) = nI (gh1 3) from jg_get Rh1 (k := 3) (nI_clamp (by omega)) (by omega)) ?_
      refine jt_go jm_m163 38 3 (f' := (54, [(0, .inr (.inr (5, a, 0))), (1, .inl (nI 1)), (2, .inl (nI sc)), (3, .inl (nI c))], [.inl (h1 (5, a, 0) (nI 2).toNatClampNeg), .inl (nI (gh1 3)), .inl (nI 3), .inr (.inr (5, a, 0))], h1)) (P := vp_in (nI 2) 78 ∧ True) rfl ⟨(vp_in_nI (by omega) (by decide)), trivial⟩ ?_
      refine jt_ti (show (h1 (5, a, 0) (nI 2).toNatClampNeg) = nI (gh1 2) from jg_get Rh1 (k := 2) (nI_clamp (by omega)) (by omega)) ?_
      refine jt_nifne jm_m163 41 (by omega) (tgt := 61) (nxt := 57) rfl rfl rfl (fun c54 => ?_) (fun c54 => ?_)
      · refine jt_go jm_m163 44 2 (f' := (63, [(0, .inr (.inr (5, a, 0))), (1, .inl (nI 1)), (2, .inl (nI sc)), (3, .inl (nI c))], [.inl ((nI (gh1 3)) + (nI 0)), .inl (nI 3), .inr (.inr (5, a, 0))], h1)) (P := True) rfl trivial ?_
        refine jt_ti (show ((nI (gh1 3)) + (nI 0)) = nI (gh1 3) from Int32.add_zero _) ?_
        refine jt_goM jm_m163 46 1 (pc' := 64) (L' := [(0, .inr (.inr (5, a, 0))), (1, .inl (nI 1)), (2, .inl (nI sc)), (3, .inl (nI c))]) (st' := []) (m' := jm_set h1 (5, a, 0) (upd (h1 (5, a, 0)) (nI 3).toNatClampNeg (nI (gh1 3)))) (P := vp_in (nI 3) 78 ∧ True) rfl ⟨(vp_in_nI (by omega) (by decide)), trivial⟩ (fun h2 eh2 => ?_)
        have Fh2 : jg_fr a h h2 := by rw [eh2]; exact jg_fr_set Fh1
        obtain ⟨gh2, egh2⟩ : ∃ y, y = sp_up gh1 (3) (gh1 3) := ⟨_, rfl⟩
        have Rh2 : jg_rel h2 a gh2 := by rw [eh2, egh2]; exact jg_set Rh1 (k := 3) (w := gh1 3) (nI_clamp (by omega)) rfl
        refine jt_go jm_m163 47 1 (f' := (65, [(0, .inr (.inr (5, a, 0))), (1, .inl (nI 1)), (2, .inl (nI sc)), (3, .inl (nI c))], [.inl (nI sc)], h2)) (P := True) rfl trivial ?_
        refine jt_iret jm_m163 48 rfl ?_
        have e : c = g 0 := by omega
        subst e
        refine ⟨jt_ln (by unfold sp_set; exact esc), ?_, Fh2⟩
        unfold sp_hour
        rw [← egc]
        have ez : gh2 = sp_clock gc := by unfold sp_clock; rw [if_neg (by omega), egh2, sp_up_self (g := gh1) (k := 3) rfl, egh1, Nat.mod_eq_of_lt (by omega)]
        rw [← ez]
        exact Rh2
      · refine jt_go jm_m163 42 2 (f' := (62, [(0, .inr (.inr (5, a, 0))), (1, .inl (nI 1)), (2, .inl (nI sc)), (3, .inl (nI c))], [.inl (nI 1), .inl (nI (gh1 3)), .inl (nI 3), .inr (.inr (5, a, 0))], h1)) (P := True) rfl trivial ?_
        refine jt_go jm_m163 45 1 (f' := (63, [(0, .inr (.inr (5, a, 0))), (1, .inl (nI 1)), (2, .inl (nI sc)), (3, .inl (nI c))], [.inl ((nI (gh1 3)) + (nI 1)), .inl (nI 3), .inr (.inr (5, a, 0))], h1)) (P := True) rfl trivial ?_
        refine jt_ti (show ((nI (gh1 3)) + (nI 1)) = nI (gh1 3 + 1) from nI_add _ _) ?_
        refine jt_goM jm_m163 46 1 (pc' := 64) (L' := [(0, .inr (.inr (5, a, 0))), (1, .inl (nI 1)), (2, .inl (nI sc)), (3, .inl (nI c))]) (st' := []) (m' := jm_set h1 (5, a, 0) (upd (h1 (5, a, 0)) (nI 3).toNatClampNeg (nI (gh1 3 + 1)))) (P := vp_in (nI 3) 78 ∧ True) rfl ⟨(vp_in_nI (by omega) (by decide)), trivial⟩ (fun h3 eh3 => ?_)
        have Fh3 : jg_fr a h h3 := by rw [eh3]; exact jg_fr_set Fh1
        obtain ⟨gh3, egh3⟩ : ∃ y, y = sp_up gh1 (3) (gh1 3 + 1) := ⟨_, rfl⟩
        have Rh3 : jg_rel h3 a gh3 := by rw [eh3, egh3]; exact jg_set Rh1 (k := 3) (w := gh1 3 + 1) (nI_clamp (by omega)) rfl
        refine jt_go jm_m163 47 1 (f' := (65, [(0, .inr (.inr (5, a, 0))), (1, .inl (nI 1)), (2, .inl (nI sc)), (3, .inl (nI c))], [.inl (nI sc)], h3)) (P := True) rfl trivial ?_
        refine jt_iret jm_m163 48 rfl ?_
        have e : c = g 0 := by omega
        subst e
        refine ⟨jt_ln (by unfold sp_set; exact esc), ?_, Fh3⟩
        unfold sp_hour
        rw [← egc]
        have e3 : gh1 3 = gc 3 := by rw [egh1]; exact sp_up_ne (by decide)
        have ez : gh3 = sp_clock gc := by unfold sp_clock; rw [if_pos (by omega), egh3, e3, egh1, show (gc 2 + 1) % 24 = 0 by omega]
        rw [← ez]
        exact Rh3
    · refine jt_go jm_m163 9 4 (f' := (15, [(0, .inr (.inr (5, a, 0))), (1, .inl (nI 1)), (2, .inl (nI sc)), (3, .inl (nI c))], [.inl (nI 1), .inl (nI c), .inr (.inr (5, a, 0)), .inl (nI sc)], hm)) (P := True) rfl trivial ?_
      refine jt_call jm_m163 13 (mi' := 162) (as := [.inr (.inr (5, a, 0)), .inl (nI c), .inl (nI 1)]) (rest := [.inl (nI sc)]) (nxt := 18) rfl rfl jm_m162 rfl rfl (tb_goes1 Rm Wc (by omega)) ?_
      rintro u h1 ⟨rfl, Rh1, Fh1⟩
      show jt_T 163 (18, [(0, .inr (.inr (5, a, 0))), (1, .inl (nI 1)), (2, .inl (nI sc)), (3, .inl (nI c))], [.inl (jm_b (sp_sd (gc (38 + 5 * c)) ≠ sp_sd (sp_gone gc c true (38 + 5 * c)))), .inl (nI sc)], h1) _
      refine jt_ifbeq jm_m163 14 (tgt := 27) (nxt := 21) rfl rfl rfl (fun c18 => ?_) (fun c18 => ?_)
      · refine jt_go jm_m163 19 2 (f' := (29, [(0, .inr (.inr (5, a, 0))), (1, .inl (nI 1)), (2, .inl (nI sc)), (3, .inl (nI c))], [.inl ((nI sc) ||| (nI 0))], h1)) (P := True) rfl trivial ?_
        refine jt_ti (show ((nI sc) ||| (nI 0)) = nI sc from jx_or0 _) ?_
        refine jt_go jm_m163 21 1 (f' := (30, [(2, .inl (nI sc)), (0, .inr (.inr (5, a, 0))), (1, .inl (nI 1)), (3, .inl (nI c))], [], h1)) (P := True) rfl trivial ?_
        refine jt_inc jm_m163 22 (c := c) (L' := [(3, .inl (nI (c + 1))), (2, .inl (nI sc)), (0, .inr (.inr (5, a, 0))), (1, .inl (nI 1))]) rfl rfl rfl rfl ?_
        refine jt_go jm_m163 23 1 (f' := (4, [(3, .inl (nI (c + 1))), (2, .inl (nI sc)), (0, .inr (.inr (5, a, 0))), (1, .inl (nI 1))], [], h1)) (P := True) rfl trivial ?_
        refine jt_pick (L' := [(0, .inr (.inr (5, a, 0))), (1, .inl (nI 1)), (2, .inl (nI sc)), (3, .inl (nI (c + 1)))]) [2, 3, 1, 0] rfl ?_
        have e1 : (sp_cats g true (c + 1)).1 = sp_one gc c true := by show sp_one _ c true = _; rw [← egc]
        have e2 : (sp_cats g true (c + 1)).2 = sc := by show (if _ then _ else _) = _; rw [← egc, ← esc, if_neg c18]
        have q := nx (by omega) h1 (by rw [e1]; exact Rh1) (jg_fr_tr Fm Fh1)
        rw [e2] at q
        exact q
      · refine jt_go jm_m163 15 4 (f' := (28, [(0, .inr (.inr (5, a, 0))), (1, .inl (nI 1)), (2, .inl (nI sc)), (3, .inl (nI c))], [.inl ((nI 1) <<< ((nI c) &&& 31)), .inl (nI sc)], h1)) (P := True) rfl trivial ?_
        refine jt_go jm_m163 20 1 (f' := (29, [(0, .inr (.inr (5, a, 0))), (1, .inl (nI 1)), (2, .inl (nI sc)), (3, .inl (nI c))], [.inl ((nI sc) ||| ((nI 1) <<< ((nI c) &&& 31)))], h1)) (P := True) rfl trivial ?_
        refine jt_ti (show ((nI sc) ||| ((nI 1) <<< ((nI c) &&& 31))) = nI (sc + 2 ^ c) from jx_orb _ (by have := jx_p32 (c := c) (by omega); omega) _ (by omega) (by rw [Nat.div_eq_of_lt wc.2.2])) ?_
        refine jt_go jm_m163 21 1 (f' := (30, [(2, .inl (nI (sc + 2 ^ c))), (0, .inr (.inr (5, a, 0))), (1, .inl (nI 1)), (3, .inl (nI c))], [], h1)) (P := True) rfl trivial ?_
        refine jt_inc jm_m163 22 (c := c) (L' := [(3, .inl (nI (c + 1))), (2, .inl (nI (sc + 2 ^ c))), (0, .inr (.inr (5, a, 0))), (1, .inl (nI 1))]) rfl rfl rfl rfl ?_
        refine jt_go jm_m163 23 1 (f' := (4, [(3, .inl (nI (c + 1))), (2, .inl (nI (sc + 2 ^ c))), (0, .inr (.inr (5, a, 0))), (1, .inl (nI 1))], [], h1)) (P := True) rfl trivial ?_
        refine jt_pick (L' := [(0, .inr (.inr (5, a, 0))), (1, .inl (nI 1)), (2, .inl (nI (sc + 2 ^ c))), (3, .inl (nI (c + 1)))]) [2, 3, 1, 0] rfl ?_
        have e1 : (sp_cats g true (c + 1)).1 = sp_one gc c true := by show sp_one _ c true = _; rw [← egc]
        have e2 : (sp_cats g true (c + 1)).2 = sc + 2 ^ c := by show (if _ then _ else _) = _; rw [← egc, ← esc, if_pos c18]
        have q := nx (by omega) h1 (by rw [e1]; exact Rh1) (jg_fr_tr Fm Fh1)
        rw [e2] at q
        exact q)
set_option maxHeartbeats 4000000 in
set_option maxRecDepth 20000 in
theorem tb_hour1 {h : jm_M} {a : Nat} {g : Nat → Nat} (R : jg_rel h a g) (W : jw g)  : jt_T 163 (0, [(0, .inr (.inr (5, a, 0))), (1, .inl (nI 1))], [], h) (fun u h' => u = some (.inl (nI (sp_set g true))) ∧ jg_rel h' a (sp_hour g true) ∧ jg_fr a h h') := by
  refine jt_go jm_m163 0 4 (f' := (4, [(3, .inl (nI 0)), (2, .inl (nI 0)), (0, .inr (.inr (5, a, 0))), (1, .inl (nI 1))], [], h)) (P := True) rfl trivial ?_
  refine jt_pick (L' := [(0, .inr (.inr (5, a, 0))), (1, .inl (nI 1)), (2, .inl (nI 0)), (3, .inl (nI 0))]) [2, 3, 1, 0] rfl ?_
  exact tb_hour_l1 W 0 (Nat.zero_le _) h R jg_fr_rf
end
section
/-! BOTH: hours on, copies, counts. -/
set_option maxRecDepth 100000 in
theorem jx_bit7 : ∀ P, P < 128 → ∀ p, p < 16 → (nI P >>> (nI p &&& 31)) &&& nI 1 = nI (P / 2 ^ p % 2) := by decide +kernel
def sp_cnt (S : Nat) : Nat := sp_sum (fun k => S / 2 ^ k % 2) 16
set_option maxRecDepth 100000 in
theorem sp_cnt_le : ∀ P, P < 128 → sp_cnt P ≤ 7 := by decide +kernel
set_option maxHeartbeats 4000000 in
set_option maxRecDepth 20000 in
theorem tb_bits_l {h : jm_M} {S : Nat} (hS : S < 128) : ∀ k, k ≤ 16 → jt_T 153 (4, [(0, .inl (nI S)), (1, .inl (nI (sp_sum (fun k => S / 2 ^ k % 2) k))), (2, .inl (nI k))], [], h) (fun u h' => u = some (.inl (nI (sp_cnt S))) ∧ h' = h) := jx_up (fun k hk nx => by
  refine jt_go jm_m153 4 2 (f' := (7, [(0, .inl (nI S)), (1, .inl (nI (sp_sum (fun k => S / 2 ^ k % 2) k))), (2, .inl (nI k))], [.inl (nI 16), .inl (nI k)], h)) (P := True) rfl trivial ?_
  refine jt_nicge jm_m153 6 (a := k) (b := 16) (by omega) (by omega) (tgt := 24) (nxt := 10) rfl rfl rfl (fun c7 => ?_) (fun c7 => ?_)
  · refine jt_go jm_m153 17 1 (f' := (25, [(0, .inl (nI S)), (1, .inl (nI (sp_sum (fun k => S / 2 ^ k % 2) k))), (2, .inl (nI k))], [.inl (nI (sp_sum (fun k => S / 2 ^ k % 2) k))], h)) (P := True) rfl trivial ?_
    refine jt_iret jm_m153 18 rfl ?_
    have e : k = 16 := by omega
    subst e
    exact ⟨rfl, rfl⟩
  · refine jt_go jm_m153 7 6 (f' := (16, [(0, .inl (nI S)), (1, .inl (nI (sp_sum (fun k => S / 2 ^ k % 2) k))), (2, .inl (nI k))], [.inl (((nI S) >>> ((nI k) &&& 31)) &&& (nI 1)), .inl (nI (sp_sum (fun k => S / 2 ^ k % 2) k))], h)) (P := True) rfl trivial ?_
    refine jt_ti (show (((nI S) >>> ((nI k) &&& 31)) &&& (nI 1)) = nI (S / 2 ^ k % 2) from jx_bit7 _ hS _ (by omega)) ?_
    refine jt_go jm_m153 13 1 (f' := (17, [(0, .inl (nI S)), (1, .inl (nI (sp_sum (fun k => S / 2 ^ k % 2) k))), (2, .inl (nI k))], [.inl ((nI (sp_sum (fun k => S / 2 ^ k % 2) k)) + (nI (S / 2 ^ k % 2)))], h)) (P := True) rfl trivial ?_
    refine jt_ti (show ((nI (sp_sum (fun k => S / 2 ^ k % 2) k)) + (nI (S / 2 ^ k % 2))) = nI (sp_sum (fun k => S / 2 ^ k % 2) k + S / 2 ^ k % 2) from nI_add _ _) ?_
    refine jt_go jm_m153 14 1 (f' := (18, [(1, .inl (nI (sp_sum (fun k => S / 2 ^ k % 2) k + S / 2 ^ k % 2))), (0, .inl (nI S)), (2, .inl (nI k))], [], h)) (P := True) rfl trivial ?_
    refine jt_inc jm_m153 15 (c := k) (L' := [(2, .inl (nI (k + 1))), (1, .inl (nI (sp_sum (fun k => S / 2 ^ k % 2) k + S / 2 ^ k % 2))), (0, .inl (nI S))]) rfl rfl rfl rfl ?_
    refine jt_go jm_m153 16 1 (f' := (4, [(2, .inl (nI (k + 1))), (1, .inl (nI (sp_sum (fun k => S / 2 ^ k % 2) k + S / 2 ^ k % 2))), (0, .inl (nI S))], [], h)) (P := True) rfl trivial ?_
    refine jt_pick (L' := [(0, .inl (nI S)), (1, .inl (nI (sp_sum (fun k => S / 2 ^ k % 2) k + S / 2 ^ k % 2))), (2, .inl (nI (k + 1)))]) [2, 1, 0] rfl ?_
    exact nx c7)
set_option maxHeartbeats 4000000 in
set_option maxRecDepth 20000 in
theorem tb_bits {h : jm_M} {S : Nat} (hS : S < 128) : jt_Pu 153 [.inl (nI S)] h (.inl (nI (sp_cnt S))) := by
  show jt_T 153 (0, [(0, .inl (nI S))], [], h) _
  refine jt_go jm_m153 0 4 (f' := (4, [(2, .inl (nI 0)), (1, .inl (nI 0)), (0, .inl (nI S))], [], h)) (P := True) rfl trivial ?_
  refine jt_pick (L' := [(0, .inl (nI S)), (1, .inl (nI 0)), (2, .inl (nI 0))]) [2, 1, 0] rfl ?_
  exact tb_bits_l hS 0 (Nat.zero_le _)
set_option maxHeartbeats 4000000 in
set_option maxRecDepth 20000 in
theorem tb_has {h : jm_M} {S p : Nat} (hS : S < 128) (hp : p < 16) : jt_Pu 152 [.inl (nI S), .inl (nI p)] h (.inl (jm_b (S / 2 ^ p % 2 = 1))) := by
  show jt_T 152 (0, [(0, .inl (nI S)), (1, .inl (nI p))], [], h) _
  refine jt_go jm_m152 0 5 (f' := (5, [(0, .inl (nI S)), (1, .inl (nI p))], [.inl (((nI S) >>> ((nI p) &&& 31)) &&& (nI 1))], h)) (P := True) rfl trivial ?_
  refine jt_ti (show (((nI S) >>> ((nI p) &&& 31)) &&& (nI 1)) = nI (S / 2 ^ p % 2) from jx_bit7 _ hS _ hp) ?_
  refine jt_go jm_m152 5 1 (f' := (6, [(0, .inl (nI S)), (1, .inl (nI p))], [.inl (nI 1), .inl (nI (S / 2 ^ p % 2))], h)) (P := True) rfl trivial ?_
  refine jt_nicne jm_m152 6 (a := S / 2 ^ p % 2) (b := 1) (by omega) (by omega) (tgt := 13) (nxt := 9) rfl rfl rfl (fun c6 => ?_) (fun c6 => ?_)
  · refine jt_go jm_m152 9 1 (f' := (14, [(0, .inl (nI S)), (1, .inl (nI p))], [.inl (nI 0)], h)) (P := True) rfl trivial ?_
    refine jt_zret jm_m152 10 rfl (Or.inl rfl) ?_
    exact ⟨jt_lb0 (c6), rfl⟩
  · refine jt_go jm_m152 7 2 (f' := (14, [(0, .inl (nI S)), (1, .inl (nI p))], [.inl (nI 1)], h)) (P := True) rfl trivial ?_
    refine jt_zret jm_m152 10 rfl (Or.inr rfl) ?_
    exact ⟨jt_lb1 (c6), rfl⟩
set_option maxRecDepth 100000 in
theorem jx_bc : ∀ S, S < 128 → (((((((((nI S) - ((((nI S).toUInt32 >>> ((nI 1).toUInt32 &&& Int32.toUInt32 31)).toInt32) &&& (nI 1431655765))) &&& (nI 858993459)) + (((((nI S) - ((((nI S).toUInt32 >>> ((nI 1).toUInt32 &&& Int32.toUInt32 31)).toInt32) &&& (nI 1431655765))).toUInt32 >>> ((nI 2).toUInt32 &&& Int32.toUInt32 31)).toInt32) &&& (nI 858993459))) + ((((((nI S) - ((((nI S).toUInt32 >>> ((nI 1).toUInt32 &&& Int32.toUInt32 31)).toInt32) &&& (nI 1431655765))) &&& (nI 858993459)) + (((((nI S) - ((((nI S).toUInt32 >>> ((nI 1).toUInt32 &&& Int32.toUInt32 31)).toInt32) &&& (nI 1431655765))).toUInt32 >>> ((nI 2).toUInt32 &&& Int32.toUInt32 31)).toInt32) &&& (nI 858993459))).toUInt32 >>> ((nI 4).toUInt32 &&& Int32.toUInt32 31)).toInt32)) &&& (nI 252645135)) + ((((((((nI S) - ((((nI S).toUInt32 >>> ((nI 1).toUInt32 &&& Int32.toUInt32 31)).toInt32) &&& (nI 1431655765))) &&& (nI 858993459)) + (((((nI S) - ((((nI S).toUInt32 >>> ((nI 1).toUInt32 &&& Int32.toUInt32 31)).toInt32) &&& (nI 1431655765))).toUInt32 >>> ((nI 2).toUInt32 &&& Int32.toUInt32 31)).toInt32) &&& (nI 858993459))) + ((((((nI S) - ((((nI S).toUInt32 >>> ((nI 1).toUInt32 &&& Int32.toUInt32 31)).toInt32) &&& (nI 1431655765))) &&& (nI 858993459)) + (((((nI S) - ((((nI S).toUInt32 >>> ((nI 1).toUInt32 &&& Int32.toUInt32 31)).toInt32) &&& (nI 1431655765))).toUInt32 >>> ((nI 2).toUInt32 &&& Int32.toUInt32 31)).toInt32) &&& (nI 858993459))).toUInt32 >>> ((nI 4).toUInt32 &&& Int32.toUInt32 31)).toInt32)) &&& (nI 252645135)).toUInt32 >>> ((nI 8).toUInt32 &&& Int32.toUInt32 31)).toInt32)) + (((((((((nI S) - ((((nI S).toUInt32 >>> ((nI 1).toUInt32 &&& Int32.toUInt32 31)).toInt32) &&& (nI 1431655765))) &&& (nI 858993459)) + (((((nI S) - ((((nI S).toUInt32 >>> ((nI 1).toUInt32 &&& Int32.toUInt32 31)).toInt32) &&& (nI 1431655765))).toUInt32 >>> ((nI 2).toUInt32 &&& Int32.toUInt32 31)).toInt32) &&& (nI 858993459))) + ((((((nI S) - ((((nI S).toUInt32 >>> ((nI 1).toUInt32 &&& Int32.toUInt32 31)).toInt32) &&& (nI 1431655765))) &&& (nI 858993459)) + (((((nI S) - ((((nI S).toUInt32 >>> ((nI 1).toUInt32 &&& Int32.toUInt32 31)).toInt32) &&& (nI 1431655765))).toUInt32 >>> ((nI 2).toUInt32 &&& Int32.toUInt32 31)).toInt32) &&& (nI 858993459))).toUInt32 >>> ((nI 4).toUInt32 &&& Int32.toUInt32 31)).toInt32)) &&& (nI 252645135)) + ((((((((nI S) - ((((nI S).toUInt32 >>> ((nI 1).toUInt32 &&& Int32.toUInt32 31)).toInt32) &&& (nI 1431655765))) &&& (nI 858993459)) + (((((nI S) - ((((nI S).toUInt32 >>> ((nI 1).toUInt32 &&& Int32.toUInt32 31)).toInt32) &&& (nI 1431655765))).toUInt32 >>> ((nI 2).toUInt32 &&& Int32.toUInt32 31)).toInt32) &&& (nI 858993459))) + ((((((nI S) - ((((nI S).toUInt32 >>> ((nI 1).toUInt32 &&& Int32.toUInt32 31)).toInt32) &&& (nI 1431655765))) &&& (nI 858993459)) + (((((nI S) - ((((nI S).toUInt32 >>> ((nI 1).toUInt32 &&& Int32.toUInt32 31)).toInt32) &&& (nI 1431655765))).toUInt32 >>> ((nI 2).toUInt32 &&& Int32.toUInt32 31)).toInt32) &&& (nI 858993459))).toUInt32 >>> ((nI 4).toUInt32 &&& Int32.toUInt32 31)).toInt32)) &&& (nI 252645135)).toUInt32 >>> ((nI 8).toUInt32 &&& Int32.toUInt32 31)).toInt32)).toUInt32 >>> ((nI 16).toUInt32 &&& Int32.toUInt32 31)).toInt32)) &&& (nI 63)) = nI (sp_cnt S) := by decide +kernel
set_option maxHeartbeats 4000000 in
set_option maxRecDepth 20000 in
theorem tj_bits {h : jm_M} {S : Nat} (hS : S < 128) : jt_Pu 238 [.inl (nI S)] h (.inl (nI (sp_cnt S))) := by
  show jt_T 238 (0, [(0, .inl (nI S))], [], h) _
  refine jt_go jm_m238 0 41 (f' := (52, [(0, .inl ((((((((nI S) - ((((nI S).toUInt32 >>> ((nI 1).toUInt32 &&& Int32.toUInt32 31)).toInt32) &&& (nI 1431655765))) &&& (nI 858993459)) + (((((nI S) - ((((nI S).toUInt32 >>> ((nI 1).toUInt32 &&& Int32.toUInt32 31)).toInt32) &&& (nI 1431655765))).toUInt32 >>> ((nI 2).toUInt32 &&& Int32.toUInt32 31)).toInt32) &&& (nI 858993459))) + ((((((nI S) - ((((nI S).toUInt32 >>> ((nI 1).toUInt32 &&& Int32.toUInt32 31)).toInt32) &&& (nI 1431655765))) &&& (nI 858993459)) + (((((nI S) - ((((nI S).toUInt32 >>> ((nI 1).toUInt32 &&& Int32.toUInt32 31)).toInt32) &&& (nI 1431655765))).toUInt32 >>> ((nI 2).toUInt32 &&& Int32.toUInt32 31)).toInt32) &&& (nI 858993459))).toUInt32 >>> ((nI 4).toUInt32 &&& Int32.toUInt32 31)).toInt32)) &&& (nI 252645135)) + ((((((((nI S) - ((((nI S).toUInt32 >>> ((nI 1).toUInt32 &&& Int32.toUInt32 31)).toInt32) &&& (nI 1431655765))) &&& (nI 858993459)) + (((((nI S) - ((((nI S).toUInt32 >>> ((nI 1).toUInt32 &&& Int32.toUInt32 31)).toInt32) &&& (nI 1431655765))).toUInt32 >>> ((nI 2).toUInt32 &&& Int32.toUInt32 31)).toInt32) &&& (nI 858993459))) + ((((((nI S) - ((((nI S).toUInt32 >>> ((nI 1).toUInt32 &&& Int32.toUInt32 31)).toInt32) &&& (nI 1431655765))) &&& (nI 858993459)) + (((((nI S) - ((((nI S).toUInt32 >>> ((nI 1).toUInt32 &&& Int32.toUInt32 31)).toInt32) &&& (nI 1431655765))).toUInt32 >>> ((nI 2).toUInt32 &&& Int32.toUInt32 31)).toInt32) &&& (nI 858993459))).toUInt32 >>> ((nI 4).toUInt32 &&& Int32.toUInt32 31)).toInt32)) &&& (nI 252645135)).toUInt32 >>> ((nI 8).toUInt32 &&& Int32.toUInt32 31)).toInt32)) + (((((((((nI S) - ((((nI S).toUInt32 >>> ((nI 1).toUInt32 &&& Int32.toUInt32 31)).toInt32) &&& (nI 1431655765))) &&& (nI 858993459)) + (((((nI S) - ((((nI S).toUInt32 >>> ((nI 1).toUInt32 &&& Int32.toUInt32 31)).toInt32) &&& (nI 1431655765))).toUInt32 >>> ((nI 2).toUInt32 &&& Int32.toUInt32 31)).toInt32) &&& (nI 858993459))) + ((((((nI S) - ((((nI S).toUInt32 >>> ((nI 1).toUInt32 &&& Int32.toUInt32 31)).toInt32) &&& (nI 1431655765))) &&& (nI 858993459)) + (((((nI S) - ((((nI S).toUInt32 >>> ((nI 1).toUInt32 &&& Int32.toUInt32 31)).toInt32) &&& (nI 1431655765))).toUInt32 >>> ((nI 2).toUInt32 &&& Int32.toUInt32 31)).toInt32) &&& (nI 858993459))).toUInt32 >>> ((nI 4).toUInt32 &&& Int32.toUInt32 31)).toInt32)) &&& (nI 252645135)) + ((((((((nI S) - ((((nI S).toUInt32 >>> ((nI 1).toUInt32 &&& Int32.toUInt32 31)).toInt32) &&& (nI 1431655765))) &&& (nI 858993459)) + (((((nI S) - ((((nI S).toUInt32 >>> ((nI 1).toUInt32 &&& Int32.toUInt32 31)).toInt32) &&& (nI 1431655765))).toUInt32 >>> ((nI 2).toUInt32 &&& Int32.toUInt32 31)).toInt32) &&& (nI 858993459))) + ((((((nI S) - ((((nI S).toUInt32 >>> ((nI 1).toUInt32 &&& Int32.toUInt32 31)).toInt32) &&& (nI 1431655765))) &&& (nI 858993459)) + (((((nI S) - ((((nI S).toUInt32 >>> ((nI 1).toUInt32 &&& Int32.toUInt32 31)).toInt32) &&& (nI 1431655765))).toUInt32 >>> ((nI 2).toUInt32 &&& Int32.toUInt32 31)).toInt32) &&& (nI 858993459))).toUInt32 >>> ((nI 4).toUInt32 &&& Int32.toUInt32 31)).toInt32)) &&& (nI 252645135)).toUInt32 >>> ((nI 8).toUInt32 &&& Int32.toUInt32 31)).toInt32)).toUInt32 >>> ((nI 16).toUInt32 &&& Int32.toUInt32 31)).toInt32)))], [.inl (((((((((nI S) - ((((nI S).toUInt32 >>> ((nI 1).toUInt32 &&& Int32.toUInt32 31)).toInt32) &&& (nI 1431655765))) &&& (nI 858993459)) + (((((nI S) - ((((nI S).toUInt32 >>> ((nI 1).toUInt32 &&& Int32.toUInt32 31)).toInt32) &&& (nI 1431655765))).toUInt32 >>> ((nI 2).toUInt32 &&& Int32.toUInt32 31)).toInt32) &&& (nI 858993459))) + ((((((nI S) - ((((nI S).toUInt32 >>> ((nI 1).toUInt32 &&& Int32.toUInt32 31)).toInt32) &&& (nI 1431655765))) &&& (nI 858993459)) + (((((nI S) - ((((nI S).toUInt32 >>> ((nI 1).toUInt32 &&& Int32.toUInt32 31)).toInt32) &&& (nI 1431655765))).toUInt32 >>> ((nI 2).toUInt32 &&& Int32.toUInt32 31)).toInt32) &&& (nI 858993459))).toUInt32 >>> ((nI 4).toUInt32 &&& Int32.toUInt32 31)).toInt32)) &&& (nI 252645135)) + ((((((((nI S) - ((((nI S).toUInt32 >>> ((nI 1).toUInt32 &&& Int32.toUInt32 31)).toInt32) &&& (nI 1431655765))) &&& (nI 858993459)) + (((((nI S) - ((((nI S).toUInt32 >>> ((nI 1).toUInt32 &&& Int32.toUInt32 31)).toInt32) &&& (nI 1431655765))).toUInt32 >>> ((nI 2).toUInt32 &&& Int32.toUInt32 31)).toInt32) &&& (nI 858993459))) + ((((((nI S) - ((((nI S).toUInt32 >>> ((nI 1).toUInt32 &&& Int32.toUInt32 31)).toInt32) &&& (nI 1431655765))) &&& (nI 858993459)) + (((((nI S) - ((((nI S).toUInt32 >>> ((nI 1).toUInt32 &&& Int32.toUInt32 31)).toInt32) &&& (nI 1431655765))).toUInt32 >>> ((nI 2).toUInt32 &&& Int32.toUInt32 31)).toInt32) &&& (nI 858993459))).toUInt32 >>> ((nI 4).toUInt32 &&& Int32.toUInt32 31)).toInt32)) &&& (nI 252645135)).toUInt32 >>> ((nI 8).toUInt32 &&& Int32.toUInt32 31)).toInt32)) + (((((((((nI S) - ((((nI S).toUInt32 >>> ((nI 1).toUInt32 &&& Int32.toUInt32 31)).toInt32) &&& (nI 1431655765))) &&& (nI 858993459)) + (((((nI S) - ((((nI S).toUInt32 >>> ((nI 1).toUInt32 &&& Int32.toUInt32 31)).toInt32) &&& (nI 1431655765))).toUInt32 >>> ((nI 2).toUInt32 &&& Int32.toUInt32 31)).toInt32) &&& (nI 858993459))) + ((((((nI S) - ((((nI S).toUInt32 >>> ((nI 1).toUInt32 &&& Int32.toUInt32 31)).toInt32) &&& (nI 1431655765))) &&& (nI 858993459)) + (((((nI S) - ((((nI S).toUInt32 >>> ((nI 1).toUInt32 &&& Int32.toUInt32 31)).toInt32) &&& (nI 1431655765))).toUInt32 >>> ((nI 2).toUInt32 &&& Int32.toUInt32 31)).toInt32) &&& (nI 858993459))).toUInt32 >>> ((nI 4).toUInt32 &&& Int32.toUInt32 31)).toInt32)) &&& (nI 252645135)) + ((((((((nI S) - ((((nI S).toUInt32 >>> ((nI 1).toUInt32 &&& Int32.toUInt32 31)).toInt32) &&& (nI 1431655765))) &&& (nI 858993459)) + (((((nI S) - ((((nI S).toUInt32 >>> ((nI 1).toUInt32 &&& Int32.toUInt32 31)).toInt32) &&& (nI 1431655765))).toUInt32 >>> ((nI 2).toUInt32 &&& Int32.toUInt32 31)).toInt32) &&& (nI 858993459))) + ((((((nI S) - ((((nI S).toUInt32 >>> ((nI 1).toUInt32 &&& Int32.toUInt32 31)).toInt32) &&& (nI 1431655765))) &&& (nI 858993459)) + (((((nI S) - ((((nI S).toUInt32 >>> ((nI 1).toUInt32 &&& Int32.toUInt32 31)).toInt32) &&& (nI 1431655765))).toUInt32 >>> ((nI 2).toUInt32 &&& Int32.toUInt32 31)).toInt32) &&& (nI 858993459))).toUInt32 >>> ((nI 4).toUInt32 &&& Int32.toUInt32 31)).toInt32)) &&& (nI 252645135)).toUInt32 >>> ((nI 8).toUInt32 &&& Int32.toUInt32 31)).toInt32)).toUInt32 >>> ((nI 16).toUInt32 &&& Int32.toUInt32 31)).toInt32)) &&& (nI 63))], h)) (P := True) rfl trivial ?_
  refine jt_iret jm_m238 41 rfl ?_
  exact ⟨jt_li (jx_bc _ hS), rfl⟩
set_option maxHeartbeats 4000000 in
set_option maxRecDepth 20000 in
theorem tb_copies_l {h : jm_M} {a b : Nat} {g : Nat → Nat} (R : jg_rel h a g) (hab : ¬ a = b) : ∀ k, k ≤ 78 → ∀ hm : jm_M, (jg_fr b h hm) → (∀ i, i < k → hm (5, b, 0) i = nI (g i)) → jt_T 146 (2, [(0, .inr (.inr (5, a, 0))), (1, .inr (.inr (5, b, 0))), (2, .inl (nI k))], [], hm) (fun u h' => u = none ∧ jg_rel h' b g ∧ jg_fr b h h') := jx_up (P := fun k => ∀ hm : jm_M, (jg_fr b h hm) → (∀ i, i < k → hm (5, b, 0) i = nI (g i)) → jt_T 146 (2, [(0, .inr (.inr (5, a, 0))), (1, .inr (.inr (5, b, 0))), (2, .inl (nI k))], [], hm) (fun u h' => u = none ∧ jg_rel h' b g ∧ jg_fr b h h')) (fun k hk nx hm Fm Km => by
  refine jt_go jm_m146 2 2 (f' := (5, [(0, .inr (.inr (5, a, 0))), (1, .inr (.inr (5, b, 0))), (2, .inl (nI k))], [.inl (nI 78), .inl (nI k)], hm)) (P := True) rfl trivial ?_
  refine jt_nicge jm_m146 4 (a := k) (b := 78) (by omega) (by omega) (tgt := 20) (nxt := 8) rfl rfl rfl (fun c5 => ?_) (fun c5 => ?_)
  · refine jt_vret jm_m146 13 rfl ?_
    exact ⟨rfl, fun i hi => Km i (by omega), Fm⟩
  · refine jt_go jm_m146 5 5 (f' := (13, [(0, .inr (.inr (5, a, 0))), (1, .inr (.inr (5, b, 0))), (2, .inl (nI k))], [.inl (hm (5, a, 0) (nI k).toNatClampNeg), .inl (nI k), .inr (.inr (5, b, 0))], hm)) (P := vp_in (nI k) 78 ∧ True) rfl ⟨(vp_in_nI (by omega) (by decide)), trivial⟩ ?_
    refine jt_ti (show (hm (5, a, 0) (nI k).toNatClampNeg) = nI (g k) from by rw [Fm (5, a, 0) (by simp; exact hab), nI_clamp (by omega)]; exact R k (by omega)) ?_
    refine jt_goM jm_m146 10 1 (pc' := 14) (L' := [(0, .inr (.inr (5, a, 0))), (1, .inr (.inr (5, b, 0))), (2, .inl (nI k))]) (st' := []) (m' := jm_set hm (5, b, 0) (upd (hm (5, b, 0)) (nI k).toNatClampNeg (nI (g k)))) (P := vp_in (nI k) 78 ∧ True) rfl ⟨(vp_in_nI (by omega) (by decide)), trivial⟩ (fun h1 eh1 => ?_)
    have F1 : jg_fr b h h1 := by rw [eh1]; exact jg_fr_set Fm
    have K1 : ∀ i, i < k + 1 → h1 (5, b, 0) i = nI (g i) := by
      intro i hi
      rw [eh1, jm_set_eq, nI_clamp (by omega)]
      by_cases e : i = k
      · rw [e, jx_eq]
      · rw [jx_ne e]; exact Km i (by omega)
    refine jt_inc jm_m146 11 (c := k) (L' := [(2, .inl (nI (k + 1))), (0, .inr (.inr (5, a, 0))), (1, .inr (.inr (5, b, 0)))]) rfl rfl rfl rfl ?_
    refine jt_go jm_m146 12 1 (f' := (2, [(2, .inl (nI (k + 1))), (0, .inr (.inr (5, a, 0))), (1, .inr (.inr (5, b, 0)))], [], h1)) (P := True) rfl trivial ?_
    refine jt_pick (L' := [(0, .inr (.inr (5, a, 0))), (1, .inr (.inr (5, b, 0))), (2, .inl (nI (k + 1)))]) [1, 2, 0] rfl ?_
    exact nx c5 h1 F1 K1)
set_option maxHeartbeats 4000000 in
set_option maxRecDepth 20000 in
theorem tb_copies {h : jm_M} {a b : Nat} {g : Nat → Nat} (R : jg_rel h a g) (hab : ¬ a = b) : jt_T 146 (0, [(0, .inr (.inr (5, a, 0))), (1, .inr (.inr (5, b, 0)))], [], h) (fun u h' => u = none ∧ jg_rel h' b g ∧ jg_fr b h h') := by
  refine jt_go jm_m146 0 2 (f' := (2, [(2, .inl (nI 0)), (0, .inr (.inr (5, a, 0))), (1, .inr (.inr (5, b, 0)))], [], h)) (P := True) rfl trivial ?_
  refine jt_pick (L' := [(0, .inr (.inr (5, a, 0))), (1, .inr (.inr (5, b, 0))), (2, .inl (nI 0))]) [1, 2, 0] rfl ?_
  exact tb_copies_l R hab 0 (Nat.zero_le _) h jg_fr_rf (fun i hi => absurd hi (Nat.not_lt_zero _))
set_option maxHeartbeats 4000000 in
set_option maxRecDepth 20000 in
theorem tb_goOn_l {h : jm_M} {a n : Nat} {g : Nat → Nat} (W : jw g) (hn : n < 2 ^ 31) : ∀ k, k ≤ n → ∀ hm : jm_M, (jg_rel hm a (sp_it g k)) → (jg_fr a h hm) → jt_T 164 (2, [(0, .inr (.inr (5, a, 0))), (1, .inl (nI n)), (2, .inl (nI k))], [], hm) (fun u h' => u = none ∧ jg_rel h' a (sp_it g n) ∧ jg_fr a h h') := jx_up (P := fun k => ∀ hm : jm_M, (jg_rel hm a (sp_it g k)) → (jg_fr a h hm) → jt_T 164 (2, [(0, .inr (.inr (5, a, 0))), (1, .inl (nI n)), (2, .inl (nI k))], [], hm) (fun u h' => u = none ∧ jg_rel h' a (sp_it g n) ∧ jg_fr a h h')) (fun k hk nx hm Rm Fm => by
  have Wk := (jw_it W k).1
  refine jt_go jm_m164 2 2 (f' := (4, [(0, .inr (.inr (5, a, 0))), (1, .inl (nI n)), (2, .inl (nI k))], [.inl (nI n), .inl (nI k)], hm)) (P := True) rfl trivial ?_
  refine jt_nicge jm_m164 4 (a := k) (b := n) (by omega) (by omega) (tgt := 19) (nxt := 7) rfl rfl rfl (fun c4 => ?_) (fun c4 => ?_)
  · refine jt_vret jm_m164 11 rfl ?_
    have e : k = n := by omega
    subst e
    exact ⟨rfl, Rm, Fm⟩
  · refine jt_go jm_m164 5 2 (f' := (9, [(0, .inr (.inr (5, a, 0))), (1, .inl (nI n)), (2, .inl (nI k))], [.inl (nI 0), .inr (.inr (5, a, 0))], hm)) (P := True) rfl trivial ?_
    refine jt_call jm_m164 7 (mi' := 163) (as := [.inr (.inr (5, a, 0)), .inl (nI 0)]) (rest := []) (nxt := 12) rfl rfl jm_m163 rfl rfl (tb_hour0 Rm Wk) ?_
    rintro u h1 ⟨rfl, Rh1, Fh1⟩
    show jt_T 164 (12, [(0, .inr (.inr (5, a, 0))), (1, .inl (nI n)), (2, .inl (nI k))], [.inl (nI (sp_set (sp_it g k) false))], h1) _
    refine jt_go jm_m164 8 1 (f' := (13, [(3, .inl (nI (sp_set (sp_it g k) false))), (0, .inr (.inr (5, a, 0))), (1, .inl (nI n)), (2, .inl (nI k))], [], h1)) (P := True) rfl trivial ?_
    refine jt_inc jm_m164 9 (c := k) (L' := [(2, .inl (nI (k + 1))), (3, .inl (nI (sp_set (sp_it g k) false))), (0, .inr (.inr (5, a, 0))), (1, .inl (nI n))]) rfl rfl rfl rfl ?_
    refine jt_go jm_m164 10 1 (f' := (2, [(2, .inl (nI (k + 1))), (3, .inl (nI (sp_set (sp_it g k) false))), (0, .inr (.inr (5, a, 0))), (1, .inl (nI n))], [], h1)) (P := True) rfl trivial ?_
    refine jt_pick (L' := [(0, .inr (.inr (5, a, 0))), (1, .inl (nI n)), (2, .inl (nI (k + 1)))]) [2, 3, 0] rfl ?_
    exact nx c4 h1 Rh1 (jg_fr_tr Fm Fh1))
set_option maxHeartbeats 4000000 in
set_option maxRecDepth 20000 in
theorem tb_goOn {h : jm_M} {a : Nat} {g : Nat → Nat} (R : jg_rel h a g) (W : jw g) {n : Nat} (hn : n < 2 ^ 31) : jt_T 164 (0, [(0, .inr (.inr (5, a, 0))), (1, .inl (nI n))], [], h) (fun u h' => u = none ∧ jg_rel h' a (sp_it g n) ∧ jg_fr a h h') := by
  refine jt_go jm_m164 0 2 (f' := (2, [(2, .inl (nI 0)), (0, .inr (.inr (5, a, 0))), (1, .inl (nI n))], [], h)) (P := True) rfl trivial ?_
  refine jt_pick (L' := [(0, .inr (.inr (5, a, 0))), (1, .inl (nI n)), (2, .inl (nI 0))]) [1, 2, 0] rfl ?_
  exact tb_goOn_l W hn 0 (Nat.zero_le _) _ R jg_fr_rf
set_option maxHeartbeats 4000000 in
set_option maxRecDepth 20000 in
theorem tb_passed_l {h : jm_M} {a : Nat} {g : Nat → Nat} (R : jg_rel h a g) (W : jw g)  : ∀ k, k ≤ g 1 → jt_T 165 (4, [(0, .inr (.inr (5, a, 0))), (1, .inl (nI (sp_ps g k))), (2, .inl (nI k))], [], h) (fun u h' => u = some (.inl (nI (sp_ps g (g 1)))) ∧ h' = h) := jx_up (fun k hk nx => by
  have bn := jw_n W
  have bm := jw_m W
  have bt := jw_t W
  have bs := sp_ps_lt W k (by omega)
  refine jt_go jm_m165 4 4 (f' := (8, [(0, .inr (.inr (5, a, 0))), (1, .inl (nI (sp_ps g k))), (2, .inl (nI k))], [.inl (h (5, a, 0) (nI 1).toNatClampNeg), .inl (nI k)], h)) (P := vp_in (nI 1) 78 ∧ True) rfl ⟨(vp_in_nI (by omega) (by decide)), trivial⟩ ?_
  refine jt_ti (show (h (5, a, 0) (nI 1).toNatClampNeg) = nI (g 1) from jg_get R (k := 1) (nI_clamp (by omega)) (by omega)) ?_
  have bq1 := jw_m W
  refine jt_nicge jm_m165 8 (a := k) (b := g 1) (by omega) (by omega) (tgt := 29) (nxt := 11) rfl rfl rfl (fun c8 => ?_) (fun c8 => ?_)
  · refine jt_go jm_m165 21 1 (f' := (30, [(0, .inr (.inr (5, a, 0))), (1, .inl (nI (sp_ps g k))), (2, .inl (nI k))], [.inl (nI (sp_ps g k))], h)) (P := True) rfl trivial ?_
    refine jt_iret jm_m165 22 rfl ?_
    have e : k = g 1 := by omega
    subst e
    exact ⟨rfl, rfl⟩
  · refine jt_go jm_m165 9 4 (f' := (15, [(0, .inr (.inr (5, a, 0))), (1, .inl (nI (sp_ps g k))), (2, .inl (nI k))], [.inl (nI 1), .inl (nI k), .inr (.inr (5, a, 0)), .inl (nI (sp_ps g k))], h)) (P := True) rfl trivial ?_
    refine jt_callp (w := .inl (nI (67 + 2 * k))) jm_m165 13 (mi' := 148) (as := [.inl (nI k), .inl (nI 1)]) (rest := [.inr (.inr (5, a, 0)), .inl (nI (sp_ps g k))]) (nxt := 18) rfl rfl jm_m148 rfl rfl (tb_ofM (k := 67 + 2 * k) (by omega)) ?_
    refine jt_go jm_m165 14 1 (f' := (19, [(0, .inr (.inr (5, a, 0))), (1, .inl (nI (sp_ps g k))), (2, .inl (nI k))], [.inl (h (5, a, 0) (nI (67 + 2 * k)).toNatClampNeg), .inl (nI (sp_ps g k))], h)) (P := vp_in (nI (67 + 2 * k)) 78 ∧ True) rfl ⟨(vp_in_nI (by omega) (by decide)), trivial⟩ ?_
    refine jt_ti (show (h (5, a, 0) (nI (67 + 2 * k)).toNatClampNeg) = nI (g (67 + 2 * k)) from jg_get R (k := 67 + 2 * k) (nI_clamp (by omega)) (by omega)) ?_
    have bq2 := jw_pas W (c := k) (by omega)
    refine jt_go jm_m165 15 3 (f' := (22, [(0, .inr (.inr (5, a, 0))), (1, .inl (nI (sp_ps g k))), (2, .inl (nI k))], [.inl ((nI (sp_ps g k)) ||| ((nI (g (67 + 2 * k))) <<< ((nI k) &&& 31)))], h)) (P := True) rfl trivial ?_
    refine jt_ti (show ((nI (sp_ps g k)) ||| ((nI (g (67 + 2 * k))) <<< ((nI k) &&& 31))) = nI (sp_ps g k + g (67 + 2 * k) * 2 ^ k) from jx_orp _ (by have := jx_p32 (c := k) (by omega); omega) _ (by omega) bs _ (by omega)) ?_
    refine jt_go jm_m165 18 1 (f' := (23, [(1, .inl (nI (sp_ps g k + g (67 + 2 * k) * 2 ^ k))), (0, .inr (.inr (5, a, 0))), (2, .inl (nI k))], [], h)) (P := True) rfl trivial ?_
    refine jt_inc jm_m165 19 (c := k) (L' := [(2, .inl (nI (k + 1))), (1, .inl (nI (sp_ps g k + g (67 + 2 * k) * 2 ^ k))), (0, .inr (.inr (5, a, 0)))]) rfl rfl rfl rfl ?_
    refine jt_go jm_m165 20 1 (f' := (4, [(2, .inl (nI (k + 1))), (1, .inl (nI (sp_ps g k + g (67 + 2 * k) * 2 ^ k))), (0, .inr (.inr (5, a, 0)))], [], h)) (P := True) rfl trivial ?_
    refine jt_pick (L' := [(0, .inr (.inr (5, a, 0))), (1, .inl (nI (sp_ps g k + g (67 + 2 * k) * 2 ^ k))), (2, .inl (nI (k + 1)))]) [2, 1, 0] rfl ?_
    exact nx c8)
set_option maxHeartbeats 4000000 in
set_option maxRecDepth 20000 in
theorem tb_passed {h : jm_M} {a : Nat} {g : Nat → Nat} (R : jg_rel h a g) (W : jw g)  : jt_Pu 165 [.inr (.inr (5, a, 0))] h (.inl (nI (sp_pb g))) := by
  rw [← sp_ps_pb W]
  show jt_T 165 (0, [(0, .inr (.inr (5, a, 0)))], [], h) _
  refine jt_go jm_m165 0 4 (f' := (4, [(2, .inl (nI 0)), (1, .inl (nI 0)), (0, .inr (.inr (5, a, 0)))], [], h)) (P := True) rfl trivial ?_
  refine jt_pick (L' := [(0, .inr (.inr (5, a, 0))), (1, .inl (nI 0)), (2, .inl (nI 0))]) [2, 1, 0] rfl ?_
  exact tb_passed_l R W 0 (Nat.zero_le _)
set_option maxHeartbeats 4000000 in
set_option maxRecDepth 20000 in
theorem tb_name {h : jm_M} {a : Nat} {g : Nat → Nat} (R : jg_rel h a g) (W : jw g) {c m : Nat} (hc : c < 6) : jt_T 166 (0, [(0, .inr (.inr (5, a, 0))), (1, .inl (nI c)), (2, .inl (nI m))], [], h) (fun u h' => u = none ∧ jg_rel h' a (sp_up (sp_up g (40 + 5 * c) m) (39 + 5 * c) 0) ∧ jg_fr a h h') := by
  refine jt_go jm_m166 0 3 (f' := (3, [(0, .inr (.inr (5, a, 0))), (1, .inl (nI c)), (2, .inl (nI m))], [.inl (nI 4), .inl (nI c), .inr (.inr (5, a, 0))], h)) (P := True) rfl trivial ?_
  refine jt_callp (w := .inl (nI (40 + 5 * c))) jm_m166 3 (mi' := 147) (as := [.inl (nI c), .inl (nI 4)]) (rest := [.inr (.inr (5, a, 0))]) (nxt := 6) rfl rfl jm_m147 rfl rfl (tb_ofC (k := 40 + 5 * c) (by omega)) ?_
  refine jt_goM jm_m166 4 2 (pc' := 8) (L' := [(0, .inr (.inr (5, a, 0))), (1, .inl (nI c)), (2, .inl (nI m))]) (st' := []) (m' := jm_set h (5, a, 0) (upd (h (5, a, 0)) (nI (40 + 5 * c)).toNatClampNeg (nI m))) (P := vp_in (nI (40 + 5 * c)) 78 ∧ True) rfl ⟨(vp_in_nI (by omega) (by decide)), trivial⟩ (fun h1 eh1 => ?_)
  have Fh1 : jg_fr a h h1 := by rw [eh1]; exact jg_fr_set jg_fr_rf
  obtain ⟨gh1, egh1⟩ : ∃ y, y = sp_up g (40 + 5 * c) (m) := ⟨_, rfl⟩
  have Rh1 : jg_rel h1 a gh1 := by rw [eh1, egh1]; exact jg_set R (k := 40 + 5 * c) (w := m) (nI_clamp (by omega)) rfl
  refine jt_go jm_m166 6 3 (f' := (11, [(0, .inr (.inr (5, a, 0))), (1, .inl (nI c)), (2, .inl (nI m))], [.inl (nI 3), .inl (nI c), .inr (.inr (5, a, 0))], h1)) (P := True) rfl trivial ?_
  refine jt_callp (w := .inl (nI (39 + 5 * c))) jm_m166 9 (mi' := 147) (as := [.inl (nI c), .inl (nI 3)]) (rest := [.inr (.inr (5, a, 0))]) (nxt := 14) rfl rfl jm_m147 rfl rfl (tb_ofC (k := 39 + 5 * c) (by omega)) ?_
  refine jt_goM jm_m166 10 2 (pc' := 16) (L' := [(0, .inr (.inr (5, a, 0))), (1, .inl (nI c)), (2, .inl (nI m))]) (st' := []) (m' := jm_set h1 (5, a, 0) (upd (h1 (5, a, 0)) (nI (39 + 5 * c)).toNatClampNeg (nI 0))) (P := vp_in (nI (39 + 5 * c)) 78 ∧ True) rfl ⟨(vp_in_nI (by omega) (by decide)), trivial⟩ (fun h2 eh2 => ?_)
  have Fh2 : jg_fr a h h2 := by rw [eh2]; exact jg_fr_set Fh1
  obtain ⟨gh2, egh2⟩ : ∃ y, y = sp_up gh1 (39 + 5 * c) (0) := ⟨_, rfl⟩
  have Rh2 : jg_rel h2 a gh2 := by rw [eh2, egh2]; exact jg_set Rh1 (k := 39 + 5 * c) (w := 0) (nI_clamp (by omega)) rfl
  refine jt_vret jm_m166 12 rfl ?_
  rw [← egh1, ← egh2]
  exact ⟨rfl, Rh2, Fh2⟩
set_option maxHeartbeats 4000000 in
set_option maxRecDepth 20000 in
theorem tb_canGo {h : jm_M} {a : Nat} {g : Nat → Nat} (R : jg_rel h a g) (W : jw g) {x : Int32} : jt_Pu 167 [.inr (.inr (5, a, 0)), .inl (x)] h (.inl (jm_b (¬ nI 999 < nI (g 3) + (nI (g 2) + x) / nI 24))) := by
  show jt_T 167 (0, [(0, .inr (.inr (5, a, 0))), (1, .inl (x))], [], h) _
  refine jt_go jm_m167 0 3 (f' := (3, [(0, .inr (.inr (5, a, 0))), (1, .inl (x))], [.inl (h (5, a, 0) (nI 3).toNatClampNeg)], h)) (P := vp_in (nI 3) 78 ∧ True) rfl ⟨(vp_in_nI (by omega) (by decide)), trivial⟩ ?_
  refine jt_ti (show (h (5, a, 0) (nI 3).toNatClampNeg) = nI (g 3) from jg_get R (k := 3) (nI_clamp (by omega)) (by omega)) ?_
  refine jt_go jm_m167 3 3 (f' := (6, [(0, .inr (.inr (5, a, 0))), (1, .inl (x))], [.inl (h (5, a, 0) (nI 2).toNatClampNeg), .inl (nI (g 3))], h)) (P := vp_in (nI 2) 78 ∧ True) rfl ⟨(vp_in_nI (by omega) (by decide)), trivial⟩ ?_
  refine jt_ti (show (h (5, a, 0) (nI 2).toNatClampNeg) = nI (g 2) from jg_get R (k := 2) (nI_clamp (by omega)) (by omega)) ?_
  have bq1 := jw_t W
  refine jt_go jm_m167 6 6 (f' := (15, [(0, .inr (.inr (5, a, 0))), (1, .inl (x))], [.inl (nI 999), .inl ((nI (g 3)) + (((nI (g 2)) + x) / (nI 24)))], h)) (P := ¬ (nI 24) = 0 ∧ True) rfl ⟨(by decide), trivial⟩ ?_
  refine jt_icgt jm_m167 12 (tgt := 22) (nxt := 18) rfl rfl rfl (fun c15 => ?_) (fun c15 => ?_)
  · refine jt_go jm_m167 15 1 (f' := (23, [(0, .inr (.inr (5, a, 0))), (1, .inl (x))], [.inl (nI 0)], h)) (P := True) rfl trivial ?_
    refine jt_zret jm_m167 16 rfl (Or.inl rfl) ?_
    exact ⟨jt_lb0 (not_not_intro c15), rfl⟩
  · refine jt_go jm_m167 13 2 (f' := (23, [(0, .inr (.inr (5, a, 0))), (1, .inl (x))], [.inl (nI 1)], h)) (P := True) rfl trivial ?_
    refine jt_zret jm_m167 16 rfl (Or.inr rfl) ?_
    exact ⟨jt_lb1 (c15), rfl⟩
set_option maxHeartbeats 4000000 in
set_option maxRecDepth 20000 in
theorem tb_addFish {h : jm_M} {a : Nat} {g : Nat → Nat} (R : jg_rel h a g) (W : jw g) {p v : Nat} (hp : p < 16) (hv : v < 100) : jt_T 198 (0, [(0, .inr (.inr (5, a, 0))), (1, .inl (nI p)), (2, .inl (nI v))], [], h) (fun u h' => u = none ∧ jg_rel h' a (sp_up g (4 + p) (min 9 (g (4 + p) + v))) ∧ jg_fr a h h') := by
  refine jt_go jm_m198 0 4 (f' := (4, [(0, .inr (.inr (5, a, 0))), (1, .inl (nI p)), (2, .inl (nI v))], [.inl ((nI 4) + (nI p)), .inr (.inr (5, a, 0))], h)) (P := True) rfl trivial ?_
  refine jt_ti (show ((nI 4) + (nI p)) = nI (4 + p) from nI_add _ _) ?_
  refine jt_go jm_m198 4 5 (f' := (10, [(0, .inr (.inr (5, a, 0))), (1, .inl (nI p)), (2, .inl (nI v))], [.inl ((nI 4) + (nI p)), .inr (.inr (5, a, 0)), .inl (nI 9), .inl (nI (4 + p)), .inr (.inr (5, a, 0))], h)) (P := True) rfl trivial ?_
  refine jt_ti (show ((nI 4) + (nI p)) = nI (4 + p) from nI_add _ _) ?_
  refine jt_go jm_m198 9 1 (f' := (11, [(0, .inr (.inr (5, a, 0))), (1, .inl (nI p)), (2, .inl (nI v))], [.inl (h (5, a, 0) (nI (4 + p)).toNatClampNeg), .inl (nI 9), .inl (nI (4 + p)), .inr (.inr (5, a, 0))], h)) (P := vp_in (nI (4 + p)) 78 ∧ True) rfl ⟨(vp_in_nI (by omega) (by decide)), trivial⟩ ?_
  refine jt_ti (show (h (5, a, 0) (nI (4 + p)).toNatClampNeg) = nI (g (4 + p)) from jg_get R (k := 4 + p) (nI_clamp (by omega)) (by omega)) ?_
  have bq1 := jw_fish W (p := p) (by omega)
  refine jt_go jm_m198 10 2 (f' := (13, [(0, .inr (.inr (5, a, 0))), (1, .inl (nI p)), (2, .inl (nI v))], [.inl ((nI (g (4 + p))) + (nI v)), .inl (nI 9), .inl (nI (4 + p)), .inr (.inr (5, a, 0))], h)) (P := True) rfl trivial ?_
  refine jt_ti (show ((nI (g (4 + p))) + (nI v)) = nI (g (4 + p) + v) from nI_add _ _) ?_
  refine jt_callp (w := .inl (nI (min 9 (g (4 + p) + v)))) jm_m198 12 (mi' := 144) (as := [.inl (nI 9), .inl (nI (g (4 + p) + v))]) (rest := [.inl (nI (4 + p)), .inr (.inr (5, a, 0))]) (nxt := 16) rfl rfl jm_m144 rfl rfl (tb_least (by omega) (by omega)) ?_
  refine jt_goM jm_m198 13 1 (pc' := 17) (L' := [(0, .inr (.inr (5, a, 0))), (1, .inl (nI p)), (2, .inl (nI v))]) (st' := []) (m' := jm_set h (5, a, 0) (upd (h (5, a, 0)) (nI (4 + p)).toNatClampNeg (nI (min 9 (g (4 + p) + v))))) (P := vp_in (nI (4 + p)) 78 ∧ True) rfl ⟨(vp_in_nI (by omega) (by decide)), trivial⟩ (fun h1 eh1 => ?_)
  have Fh1 : jg_fr a h h1 := by rw [eh1]; exact jg_fr_set jg_fr_rf
  obtain ⟨gh1, egh1⟩ : ∃ y, y = sp_up g (4 + p) (min 9 (g (4 + p) + v)) := ⟨_, rfl⟩
  have Rh1 : jg_rel h1 a gh1 := by rw [eh1, egh1]; exact jg_set R (k := 4 + p) (w := min 9 (g (4 + p) + v)) (nI_clamp (by omega)) rfl
  refine jt_vret jm_m198 14 rfl ?_
  rw [← egh1]
  exact ⟨rfl, Rh1, Fh1⟩
set_option maxHeartbeats 4000000 in
set_option maxRecDepth 20000 in
theorem tb_fish_l {h : jm_M} {a : Nat} {g : Nat → Nat} (R : jg_rel h a g) (W : jw g)  : ∀ k, k ≤ 16 → jt_T 187 (4, [(0, .inr (.inr (5, a, 0))), (1, .inl (nI (sp_sum (fun p => g (4 + p)) k))), (2, .inl (nI k))], [], h) (fun u h' => u = some (.inl (nI (sp_sum (fun p => g (4 + p)) 16))) ∧ h' = h) := jx_up (fun k hk nx => by
  refine jt_go jm_m187 4 2 (f' := (7, [(0, .inr (.inr (5, a, 0))), (1, .inl (nI (sp_sum (fun p => g (4 + p)) k))), (2, .inl (nI k))], [.inl (nI 16), .inl (nI k)], h)) (P := True) rfl trivial ?_
  refine jt_nicge jm_m187 6 (a := k) (b := 16) (by omega) (by omega) (tgt := 24) (nxt := 10) rfl rfl rfl (fun c7 => ?_) (fun c7 => ?_)
  · refine jt_go jm_m187 17 1 (f' := (25, [(0, .inr (.inr (5, a, 0))), (1, .inl (nI (sp_sum (fun p => g (4 + p)) k))), (2, .inl (nI k))], [.inl (nI (sp_sum (fun p => g (4 + p)) k))], h)) (P := True) rfl trivial ?_
    refine jt_iret jm_m187 18 rfl ?_
    have e : k = 16 := by omega
    subst e
    exact ⟨rfl, rfl⟩
  · refine jt_go jm_m187 7 5 (f' := (15, [(0, .inr (.inr (5, a, 0))), (1, .inl (nI (sp_sum (fun p => g (4 + p)) k))), (2, .inl (nI k))], [.inl ((nI 4) + (nI k)), .inr (.inr (5, a, 0)), .inl (nI (sp_sum (fun p => g (4 + p)) k))], h)) (P := True) rfl trivial ?_
    refine jt_ti (show ((nI 4) + (nI k)) = nI (4 + k) from nI_add _ _) ?_
    refine jt_go jm_m187 12 1 (f' := (16, [(0, .inr (.inr (5, a, 0))), (1, .inl (nI (sp_sum (fun p => g (4 + p)) k))), (2, .inl (nI k))], [.inl (h (5, a, 0) (nI (4 + k)).toNatClampNeg), .inl (nI (sp_sum (fun p => g (4 + p)) k))], h)) (P := vp_in (nI (4 + k)) 78 ∧ True) rfl ⟨(vp_in_nI (by omega) (by decide)), trivial⟩ ?_
    refine jt_ti (show (h (5, a, 0) (nI (4 + k)).toNatClampNeg) = nI (g (4 + k)) from jg_get R (k := 4 + k) (nI_clamp (by omega)) (by omega)) ?_
    have bq1 := jw_fish W (p := k) (by omega)
    refine jt_go jm_m187 13 1 (f' := (17, [(0, .inr (.inr (5, a, 0))), (1, .inl (nI (sp_sum (fun p => g (4 + p)) k))), (2, .inl (nI k))], [.inl ((nI (sp_sum (fun p => g (4 + p)) k)) + (nI (g (4 + k))))], h)) (P := True) rfl trivial ?_
    refine jt_ti (show ((nI (sp_sum (fun p => g (4 + p)) k)) + (nI (g (4 + k)))) = nI (sp_sum (fun p => g (4 + p)) k + (g (4 + k))) from nI_add _ _) ?_
    refine jt_go jm_m187 14 1 (f' := (18, [(1, .inl (nI (sp_sum (fun p => g (4 + p)) k + (g (4 + k))))), (0, .inr (.inr (5, a, 0))), (2, .inl (nI k))], [], h)) (P := True) rfl trivial ?_
    refine jt_inc jm_m187 15 (c := k) (L' := [(2, .inl (nI (k + 1))), (1, .inl (nI (sp_sum (fun p => g (4 + p)) k + (g (4 + k))))), (0, .inr (.inr (5, a, 0)))]) rfl rfl rfl rfl ?_
    refine jt_go jm_m187 16 1 (f' := (4, [(2, .inl (nI (k + 1))), (1, .inl (nI (sp_sum (fun p => g (4 + p)) k + (g (4 + k))))), (0, .inr (.inr (5, a, 0)))], [], h)) (P := True) rfl trivial ?_
    refine jt_pick (L' := [(0, .inr (.inr (5, a, 0))), (1, .inl (nI (sp_sum (fun p => g (4 + p)) k + (g (4 + k))))), (2, .inl (nI (k + 1)))]) [2, 1, 0] rfl ?_
    exact nx c7)
set_option maxHeartbeats 4000000 in
set_option maxRecDepth 20000 in
theorem tb_fish {h : jm_M} {a : Nat} {g : Nat → Nat} (R : jg_rel h a g) (W : jw g)  : jt_Pu 187 [.inr (.inr (5, a, 0))] h (.inl (nI (sp_sum (fun p => g (4 + p)) 16))) := by
  show jt_T 187 (0, [(0, .inr (.inr (5, a, 0)))], [], h) _
  refine jt_go jm_m187 0 4 (f' := (4, [(2, .inl (nI 0)), (1, .inl (nI 0)), (0, .inr (.inr (5, a, 0)))], [], h)) (P := True) rfl trivial ?_
  refine jt_pick (L' := [(0, .inr (.inr (5, a, 0))), (1, .inl (nI 0)), (2, .inl (nI 0))]) [2, 1, 0] rfl ?_
  exact tb_fish_l R W 0 (Nat.zero_le _)
set_option maxHeartbeats 4000000 in
set_option maxRecDepth 20000 in
theorem tb_catsAt_l {h : jm_M} {a : Nat} {g : Nat → Nat} (R : jg_rel h a g) (W : jw g) {p : Nat} (hp : p < 16) : ∀ k, k ≤ g 0 → jt_T 177 (4, [(0, .inr (.inr (5, a, 0))), (1, .inl (nI p)), (2, .inl (nI (sp_bits (fun c => decide (g (38 + 5 * c) = p)) k))), (3, .inl (nI k))], [], h) (fun u h' => u = some (.inl (nI (sp_bits (fun c => decide (g (38 + 5 * c) = p)) (g 0)))) ∧ h' = h) := jx_up (fun k hk nx => by
  have bn := jw_n W
  have bm := jw_m W
  have bt := jw_t W
  have bs := sp_bits_lt (fun c => decide (g (38 + 5 * c) = p)) k
  refine jt_go jm_m177 4 4 (f' := (8, [(0, .inr (.inr (5, a, 0))), (1, .inl (nI p)), (2, .inl (nI (sp_bits (fun c => decide (g (38 + 5 * c) = p)) k))), (3, .inl (nI k))], [.inl (h (5, a, 0) (nI 0).toNatClampNeg), .inl (nI k)], h)) (P := vp_in (nI 0) 78 ∧ True) rfl ⟨(vp_in_nI (by omega) (by decide)), trivial⟩ ?_
  refine jt_ti (show (h (5, a, 0) (nI 0).toNatClampNeg) = nI (g 0) from jg_get R (k := 0) (nI_clamp (by omega)) (by omega)) ?_
  have bq1 := jw_n W
  refine jt_nicge jm_m177 8 (a := k) (b := g 0) (by omega) (by omega) (tgt := 38) (nxt := 11) rfl rfl rfl (fun c8 => ?_) (fun c8 => ?_)
  · refine jt_go jm_m177 26 1 (f' := (39, [(0, .inr (.inr (5, a, 0))), (1, .inl (nI p)), (2, .inl (nI (sp_bits (fun c => decide (g (38 + 5 * c) = p)) k))), (3, .inl (nI k))], [.inl (nI (sp_bits (fun c => decide (g (38 + 5 * c) = p)) k))], h)) (P := True) rfl trivial ?_
    refine jt_iret jm_m177 27 rfl ?_
    have e : k = g 0 := by omega
    subst e
    exact ⟨rfl, rfl⟩
  · refine jt_go jm_m177 9 4 (f' := (15, [(0, .inr (.inr (5, a, 0))), (1, .inl (nI p)), (2, .inl (nI (sp_bits (fun c => decide (g (38 + 5 * c) = p)) k))), (3, .inl (nI k))], [.inl (nI 2), .inl (nI k), .inr (.inr (5, a, 0)), .inl (nI (sp_bits (fun c => decide (g (38 + 5 * c) = p)) k))], h)) (P := True) rfl trivial ?_
    refine jt_callp (w := .inl (nI (38 + 5 * k))) jm_m177 13 (mi' := 147) (as := [.inl (nI k), .inl (nI 2)]) (rest := [.inr (.inr (5, a, 0)), .inl (nI (sp_bits (fun c => decide (g (38 + 5 * c) = p)) k))]) (nxt := 18) rfl rfl jm_m147 rfl rfl (tb_ofC (k := 38 + 5 * k) (by omega)) ?_
    refine jt_go jm_m177 14 1 (f' := (19, [(0, .inr (.inr (5, a, 0))), (1, .inl (nI p)), (2, .inl (nI (sp_bits (fun c => decide (g (38 + 5 * c) = p)) k))), (3, .inl (nI k))], [.inl (h (5, a, 0) (nI (38 + 5 * k)).toNatClampNeg), .inl (nI (sp_bits (fun c => decide (g (38 + 5 * c) = p)) k))], h)) (P := vp_in (nI (38 + 5 * k)) 78 ∧ True) rfl ⟨(vp_in_nI (by omega) (by decide)), trivial⟩ ?_
    refine jt_ti (show (h (5, a, 0) (nI (38 + 5 * k)).toNatClampNeg) = nI (g (38 + 5 * k)) from jg_get R (k := 38 + 5 * k) (nI_clamp (by omega)) (by omega)) ?_
    have bq2 := jw_at W (c := k) (by omega)
    refine jt_go jm_m177 15 1 (f' := (20, [(0, .inr (.inr (5, a, 0))), (1, .inl (nI p)), (2, .inl (nI (sp_bits (fun c => decide (g (38 + 5 * c) = p)) k))), (3, .inl (nI k))], [.inl (nI p), .inl (nI (g (38 + 5 * k))), .inl (nI (sp_bits (fun c => decide (g (38 + 5 * c) = p)) k))], h)) (P := True) rfl trivial ?_
    refine jt_nicne jm_m177 16 (a := g (38 + 5 * k)) (b := p) (by omega) (by omega) (tgt := 29) (nxt := 23) rfl rfl rfl (fun c20 => ?_) (fun c20 => ?_)
    · refine jt_go jm_m177 21 2 (f' := (31, [(0, .inr (.inr (5, a, 0))), (1, .inl (nI p)), (2, .inl (nI (sp_bits (fun c => decide (g (38 + 5 * c) = p)) k))), (3, .inl (nI k))], [.inl ((nI (sp_bits (fun c => decide (g (38 + 5 * c) = p)) k)) ||| (nI 0))], h)) (P := True) rfl trivial ?_
      refine jt_ti (show ((nI (sp_bits (fun c => decide (g (38 + 5 * c) = p)) k)) ||| (nI 0)) = nI (sp_bits (fun c => decide (g (38 + 5 * c) = p)) k) from jx_or0 _) ?_
      refine jt_go jm_m177 23 1 (f' := (32, [(2, .inl (nI (sp_bits (fun c => decide (g (38 + 5 * c) = p)) k))), (0, .inr (.inr (5, a, 0))), (1, .inl (nI p)), (3, .inl (nI k))], [], h)) (P := True) rfl trivial ?_
      refine jt_inc jm_m177 24 (c := k) (L' := [(3, .inl (nI (k + 1))), (2, .inl (nI (sp_bits (fun c => decide (g (38 + 5 * c) = p)) k))), (0, .inr (.inr (5, a, 0))), (1, .inl (nI p))]) rfl rfl rfl rfl ?_
      refine jt_go jm_m177 25 1 (f' := (4, [(3, .inl (nI (k + 1))), (2, .inl (nI (sp_bits (fun c => decide (g (38 + 5 * c) = p)) k))), (0, .inr (.inr (5, a, 0))), (1, .inl (nI p))], [], h)) (P := True) rfl trivial ?_
      refine jt_pick (L' := [(0, .inr (.inr (5, a, 0))), (1, .inl (nI p)), (2, .inl (nI (sp_bits (fun c => decide (g (38 + 5 * c) = p)) k))), (3, .inl (nI (k + 1)))]) [2, 3, 1, 0] rfl ?_
      have e : sp_bits (fun c => decide (g (38 + 5 * c) = p)) (k + 1) = sp_bits (fun c => decide (g (38 + 5 * c) = p)) k := if_neg (fun z => c20 (of_decide_eq_true z))
      have q := nx c8
      rw [e] at q
      exact q
    · refine jt_go jm_m177 17 4 (f' := (30, [(0, .inr (.inr (5, a, 0))), (1, .inl (nI p)), (2, .inl (nI (sp_bits (fun c => decide (g (38 + 5 * c) = p)) k))), (3, .inl (nI k))], [.inl ((nI 1) <<< ((nI k) &&& 31)), .inl (nI (sp_bits (fun c => decide (g (38 + 5 * c) = p)) k))], h)) (P := True) rfl trivial ?_
      refine jt_go jm_m177 22 1 (f' := (31, [(0, .inr (.inr (5, a, 0))), (1, .inl (nI p)), (2, .inl (nI (sp_bits (fun c => decide (g (38 + 5 * c) = p)) k))), (3, .inl (nI k))], [.inl ((nI (sp_bits (fun c => decide (g (38 + 5 * c) = p)) k)) ||| ((nI 1) <<< ((nI k) &&& 31)))], h)) (P := True) rfl trivial ?_
      refine jt_ti (show ((nI (sp_bits (fun c => decide (g (38 + 5 * c) = p)) k)) ||| ((nI 1) <<< ((nI k) &&& 31))) = nI (sp_bits (fun c => decide (g (38 + 5 * c) = p)) k + 2 ^ k) from jx_orb _ (by have := jx_p32 (c := k) (by omega); omega) _ (by omega) (by rw [Nat.div_eq_of_lt bs])) ?_
      refine jt_go jm_m177 23 1 (f' := (32, [(2, .inl (nI (sp_bits (fun c => decide (g (38 + 5 * c) = p)) k + 2 ^ k))), (0, .inr (.inr (5, a, 0))), (1, .inl (nI p)), (3, .inl (nI k))], [], h)) (P := True) rfl trivial ?_
      refine jt_inc jm_m177 24 (c := k) (L' := [(3, .inl (nI (k + 1))), (2, .inl (nI (sp_bits (fun c => decide (g (38 + 5 * c) = p)) k + 2 ^ k))), (0, .inr (.inr (5, a, 0))), (1, .inl (nI p))]) rfl rfl rfl rfl ?_
      refine jt_go jm_m177 25 1 (f' := (4, [(3, .inl (nI (k + 1))), (2, .inl (nI (sp_bits (fun c => decide (g (38 + 5 * c) = p)) k + 2 ^ k))), (0, .inr (.inr (5, a, 0))), (1, .inl (nI p))], [], h)) (P := True) rfl trivial ?_
      refine jt_pick (L' := [(0, .inr (.inr (5, a, 0))), (1, .inl (nI p)), (2, .inl (nI (sp_bits (fun c => decide (g (38 + 5 * c) = p)) k + 2 ^ k))), (3, .inl (nI (k + 1)))]) [2, 3, 1, 0] rfl ?_
      have e : sp_bits (fun c => decide (g (38 + 5 * c) = p)) (k + 1) = sp_bits (fun c => decide (g (38 + 5 * c) = p)) k + 2 ^ k := if_pos (decide_eq_true c20)
      have q := nx c8
      rw [e] at q
      exact q)
set_option maxHeartbeats 4000000 in
set_option maxRecDepth 20000 in
theorem tb_catsAt {h : jm_M} {a : Nat} {g : Nat → Nat} (R : jg_rel h a g) (W : jw g) {p : Nat} (hp : p < 16) : jt_Pu 177 [.inr (.inr (5, a, 0)), .inl (nI p)] h (.inl (nI (sp_bits (fun c => decide (g (38 + 5 * c) = p)) (g 0)))) := by
  show jt_T 177 (0, [(0, .inr (.inr (5, a, 0))), (1, .inl (nI p))], [], h) _
  refine jt_go jm_m177 0 4 (f' := (4, [(3, .inl (nI 0)), (2, .inl (nI 0)), (0, .inr (.inr (5, a, 0))), (1, .inl (nI p))], [], h)) (P := True) rfl trivial ?_
  refine jt_pick (L' := [(0, .inr (.inr (5, a, 0))), (1, .inl (nI p)), (2, .inl (nI 0)), (3, .inl (nI 0))]) [2, 3, 1, 0] rfl ?_
  exact tb_catsAt_l R W hp 0 (Nat.zero_le _)
set_option maxHeartbeats 4000000 in
set_option maxRecDepth 20000 in
theorem tb_side_l {h : jm_M} {a : Nat} {g : Nat → Nat} (R : jg_rel h a g) (W : jw g) {sd : Nat} (hs : sd ≤ 1) : ∀ k, k ≤ g 0 → jt_T 212 (5, [(0, .inr (.inr (4, 0, 0))), (1, .inr (.inr (5, a, 0))), (2, .inl (nI sd)), (3, .inl (nI (sp_sum (fun c => if sp_sd (g (38 + 5 * c)) = sd then 1 else 0) k))), (4, .inl (nI k))], [], h) (fun u h' => u = some (.inl (nI (sp_sum (fun c => if sp_sd (g (38 + 5 * c)) = sd then 1 else 0) (g 0)))) ∧ h' = h) := jx_up (fun k hk nx => by
  have bn := jw_n W
  have bm := jw_m W
  have bt := jw_t W
  refine jt_go jm_m212 4 4 (f' := (10, [(0, .inr (.inr (4, 0, 0))), (1, .inr (.inr (5, a, 0))), (2, .inl (nI sd)), (3, .inl (nI (sp_sum (fun c => if sp_sd (g (38 + 5 * c)) = sd then 1 else 0) k))), (4, .inl (nI k))], [.inl (h (5, a, 0) (nI 0).toNatClampNeg), .inl (nI k)], h)) (P := vp_in (nI 0) 78 ∧ True) rfl ⟨(vp_in_nI (by omega) (by decide)), trivial⟩ ?_
  refine jt_ti (show (h (5, a, 0) (nI 0).toNatClampNeg) = nI (g 0) from jg_get R (k := 0) (nI_clamp (by omega)) (by omega)) ?_
  have bq1 := jw_n W
  refine jt_nicge jm_m212 8 (a := k) (b := g 0) (by omega) (by omega) (tgt := 42) (nxt := 13) rfl rfl rfl (fun c10 => ?_) (fun c10 => ?_)
  · refine jt_go jm_m212 25 1 (f' := (43, [(0, .inr (.inr (4, 0, 0))), (1, .inr (.inr (5, a, 0))), (2, .inl (nI sd)), (3, .inl (nI (sp_sum (fun c => if sp_sd (g (38 + 5 * c)) = sd then 1 else 0) k))), (4, .inl (nI k))], [.inl (nI (sp_sum (fun c => if sp_sd (g (38 + 5 * c)) = sd then 1 else 0) k))], h)) (P := True) rfl trivial ?_
    refine jt_iret jm_m212 26 rfl ?_
    have e : k = g 0 := by omega
    subst e
    exact ⟨rfl, rfl⟩
  · refine jt_go jm_m212 9 4 (f' := (18, [(0, .inr (.inr (4, 0, 0))), (1, .inr (.inr (5, a, 0))), (2, .inl (nI sd)), (3, .inl (nI (sp_sum (fun c => if sp_sd (g (38 + 5 * c)) = sd then 1 else 0) k))), (4, .inl (nI k))], [.inl (nI 2), .inl (nI k), .inr (.inr (5, a, 0)), .inl (nI (sp_sum (fun c => if sp_sd (g (38 + 5 * c)) = sd then 1 else 0) k))], h)) (P := True) rfl trivial ?_
    refine jt_callp (w := .inl (nI (38 + 5 * k))) jm_m212 13 (mi' := 147) (as := [.inl (nI k), .inl (nI 2)]) (rest := [.inr (.inr (5, a, 0)), .inl (nI (sp_sum (fun c => if sp_sd (g (38 + 5 * c)) = sd then 1 else 0) k))]) (nxt := 21) rfl rfl jm_m147 rfl rfl (tb_ofC (k := 38 + 5 * k) (by omega)) ?_
    refine jt_go jm_m212 14 1 (f' := (22, [(0, .inr (.inr (4, 0, 0))), (1, .inr (.inr (5, a, 0))), (2, .inl (nI sd)), (3, .inl (nI (sp_sum (fun c => if sp_sd (g (38 + 5 * c)) = sd then 1 else 0) k))), (4, .inl (nI k))], [.inl (h (5, a, 0) (nI (38 + 5 * k)).toNatClampNeg), .inl (nI (sp_sum (fun c => if sp_sd (g (38 + 5 * c)) = sd then 1 else 0) k))], h)) (P := vp_in (nI (38 + 5 * k)) 78 ∧ True) rfl ⟨(vp_in_nI (by omega) (by decide)), trivial⟩ ?_
    refine jt_ti (show (h (5, a, 0) (nI (38 + 5 * k)).toNatClampNeg) = nI (g (38 + 5 * k)) from jg_get R (k := 38 + 5 * k) (nI_clamp (by omega)) (by omega)) ?_
    have bq2 := jw_at W (c := k) (by omega)
    refine jt_callp (w := .inl (nI (sp_sd (g (38 + 5 * k))))) jm_m212 15 (mi' := 154) (as := [.inl (nI (g (38 + 5 * k)))]) (rest := [.inl (nI (sp_sum (fun c => if sp_sd (g (38 + 5 * c)) = sd then 1 else 0) k))]) (nxt := 25) rfl rfl jm_m154 rfl rfl (tb_sideOf (by omega)) ?_
    have bq3 := sp_sd_le (g (38 + 5 * k))
    refine jt_go jm_m212 16 1 (f' := (26, [(0, .inr (.inr (4, 0, 0))), (1, .inr (.inr (5, a, 0))), (2, .inl (nI sd)), (3, .inl (nI (sp_sum (fun c => if sp_sd (g (38 + 5 * c)) = sd then 1 else 0) k))), (4, .inl (nI k))], [.inl (nI sd), .inl (nI (sp_sd (g (38 + 5 * k)))), .inl (nI (sp_sum (fun c => if sp_sd (g (38 + 5 * c)) = sd then 1 else 0) k))], h)) (P := True) rfl trivial ?_
    refine jt_nicne jm_m212 17 (a := sp_sd (g (38 + 5 * k))) (b := sd) (by omega) (by omega) (tgt := 33) (nxt := 29) rfl rfl rfl (fun c26 => ?_) (fun c26 => ?_)
    · refine jt_go jm_m212 20 2 (f' := (35, [(0, .inr (.inr (4, 0, 0))), (1, .inr (.inr (5, a, 0))), (2, .inl (nI sd)), (3, .inl (nI (sp_sum (fun c => if sp_sd (g (38 + 5 * c)) = sd then 1 else 0) k))), (4, .inl (nI k))], [.inl ((nI (sp_sum (fun c => if sp_sd (g (38 + 5 * c)) = sd then 1 else 0) k)) + (nI 0))], h)) (P := True) rfl trivial ?_
      refine jt_ti (show ((nI (sp_sum (fun c => if sp_sd (g (38 + 5 * c)) = sd then 1 else 0) k)) + (nI 0)) = nI (sp_sum (fun c => if sp_sd (g (38 + 5 * c)) = sd then 1 else 0) k) from Int32.add_zero _) ?_
      refine jt_go jm_m212 22 1 (f' := (36, [(3, .inl (nI (sp_sum (fun c => if sp_sd (g (38 + 5 * c)) = sd then 1 else 0) k))), (0, .inr (.inr (4, 0, 0))), (1, .inr (.inr (5, a, 0))), (2, .inl (nI sd)), (4, .inl (nI k))], [], h)) (P := True) rfl trivial ?_
      refine jt_inc jm_m212 23 (c := k) (L' := [(4, .inl (nI (k + 1))), (3, .inl (nI (sp_sum (fun c => if sp_sd (g (38 + 5 * c)) = sd then 1 else 0) k))), (0, .inr (.inr (4, 0, 0))), (1, .inr (.inr (5, a, 0))), (2, .inl (nI sd))]) rfl rfl rfl rfl ?_
      refine jt_go jm_m212 24 1 (f' := (5, [(4, .inl (nI (k + 1))), (3, .inl (nI (sp_sum (fun c => if sp_sd (g (38 + 5 * c)) = sd then 1 else 0) k))), (0, .inr (.inr (4, 0, 0))), (1, .inr (.inr (5, a, 0))), (2, .inl (nI sd))], [], h)) (P := True) rfl trivial ?_
      refine jt_pick (L' := [(0, .inr (.inr (4, 0, 0))), (1, .inr (.inr (5, a, 0))), (2, .inl (nI sd)), (3, .inl (nI (sp_sum (fun c => if sp_sd (g (38 + 5 * c)) = sd then 1 else 0) k))), (4, .inl (nI (k + 1)))]) [2, 3, 4, 1, 0] rfl ?_
      have e : sp_sum (fun c => if sp_sd (g (38 + 5 * c)) = sd then 1 else 0) (k + 1) = sp_sum (fun c => if sp_sd (g (38 + 5 * c)) = sd then 1 else 0) k := by show sp_sum (fun c => if sp_sd (g (38 + 5 * c)) = sd then 1 else 0) k + (if _ then _ else _) = _; rw [if_neg c26, Nat.add_zero]
      have q := nx c10
      rw [e] at q
      exact q
    · refine jt_go jm_m212 18 2 (f' := (34, [(0, .inr (.inr (4, 0, 0))), (1, .inr (.inr (5, a, 0))), (2, .inl (nI sd)), (3, .inl (nI (sp_sum (fun c => if sp_sd (g (38 + 5 * c)) = sd then 1 else 0) k))), (4, .inl (nI k))], [.inl (nI 1), .inl (nI (sp_sum (fun c => if sp_sd (g (38 + 5 * c)) = sd then 1 else 0) k))], h)) (P := True) rfl trivial ?_
      refine jt_go jm_m212 21 1 (f' := (35, [(0, .inr (.inr (4, 0, 0))), (1, .inr (.inr (5, a, 0))), (2, .inl (nI sd)), (3, .inl (nI (sp_sum (fun c => if sp_sd (g (38 + 5 * c)) = sd then 1 else 0) k))), (4, .inl (nI k))], [.inl ((nI (sp_sum (fun c => if sp_sd (g (38 + 5 * c)) = sd then 1 else 0) k)) + (nI 1))], h)) (P := True) rfl trivial ?_
      refine jt_ti (show ((nI (sp_sum (fun c => if sp_sd (g (38 + 5 * c)) = sd then 1 else 0) k)) + (nI 1)) = nI (sp_sum (fun c => if sp_sd (g (38 + 5 * c)) = sd then 1 else 0) k + 1) from nI_add _ _) ?_
      refine jt_go jm_m212 22 1 (f' := (36, [(3, .inl (nI (sp_sum (fun c => if sp_sd (g (38 + 5 * c)) = sd then 1 else 0) k + 1))), (0, .inr (.inr (4, 0, 0))), (1, .inr (.inr (5, a, 0))), (2, .inl (nI sd)), (4, .inl (nI k))], [], h)) (P := True) rfl trivial ?_
      refine jt_inc jm_m212 23 (c := k) (L' := [(4, .inl (nI (k + 1))), (3, .inl (nI (sp_sum (fun c => if sp_sd (g (38 + 5 * c)) = sd then 1 else 0) k + 1))), (0, .inr (.inr (4, 0, 0))), (1, .inr (.inr (5, a, 0))), (2, .inl (nI sd))]) rfl rfl rfl rfl ?_
      refine jt_go jm_m212 24 1 (f' := (5, [(4, .inl (nI (k + 1))), (3, .inl (nI (sp_sum (fun c => if sp_sd (g (38 + 5 * c)) = sd then 1 else 0) k + 1))), (0, .inr (.inr (4, 0, 0))), (1, .inr (.inr (5, a, 0))), (2, .inl (nI sd))], [], h)) (P := True) rfl trivial ?_
      refine jt_pick (L' := [(0, .inr (.inr (4, 0, 0))), (1, .inr (.inr (5, a, 0))), (2, .inl (nI sd)), (3, .inl (nI (sp_sum (fun c => if sp_sd (g (38 + 5 * c)) = sd then 1 else 0) k + 1))), (4, .inl (nI (k + 1)))]) [2, 3, 4, 1, 0] rfl ?_
      have e : sp_sum (fun c => if sp_sd (g (38 + 5 * c)) = sd then 1 else 0) (k + 1) = sp_sum (fun c => if sp_sd (g (38 + 5 * c)) = sd then 1 else 0) k + 1 := by show sp_sum (fun c => if sp_sd (g (38 + 5 * c)) = sd then 1 else 0) k + (if _ then _ else _) = _; rw [if_pos c26]
      have q := nx c10
      rw [e] at q
      exact q)
set_option maxHeartbeats 4000000 in
set_option maxRecDepth 20000 in
theorem tb_side {h : jm_M} {a : Nat} {g : Nat → Nat} (R : jg_rel h a g) (W : jw g) {sd : Nat} (hs : sd ≤ 1) : jt_Pu 212 [.inr (.inr (4, 0, 0)), .inr (.inr (5, a, 0)), .inl (nI sd)] h (.inl (nI (sp_sum (fun c => if sp_sd (g (38 + 5 * c)) = sd then 1 else 0) (g 0)))) := by
  show jt_T 212 (0, [(0, .inr (.inr (4, 0, 0))), (1, .inr (.inr (5, a, 0))), (2, .inl (nI sd))], [], h) _
  refine jt_go jm_m212 0 4 (f' := (5, [(4, .inl (nI 0)), (3, .inl (nI 0)), (0, .inr (.inr (4, 0, 0))), (1, .inr (.inr (5, a, 0))), (2, .inl (nI sd))], [], h)) (P := True) rfl trivial ?_
  refine jt_pick (L' := [(0, .inr (.inr (4, 0, 0))), (1, .inr (.inr (5, a, 0))), (2, .inl (nI sd)), (3, .inl (nI 0)), (4, .inl (nI 0))]) [2, 3, 4, 1, 0] rfl ?_
  exact tb_side_l R W hs 0 (Nat.zero_le _)
theorem jx_cpy {f g : Nat → Int32} {p : Nat} {x : Int32} (hp : p < x.toNatClampNeg) : va_cpy f g (nI 0).toNatClampNeg (nI 0).toNatClampNeg x.toNatClampNeg p = f p := by
  have h0 : (nI 0).toNatClampNeg = 0 := nI_clamp (by decide)
  unfold va_cpy
  rw [h0, if_pos (by omega)]
  congr 1
  omega
set_option maxHeartbeats 4000000 in
set_option maxRecDepth 20000 in
theorem ta_becomes {h : jm_M} {i j : Nat} {g : Nat → Nat} (R : jf_rel h i g) (W : jw g) (hij : ¬ i = j) : jt_T 6 (0, [(0, .inr (.inr (2, j, 0))), (1, .inr (.inr (2, i, 0)))], [], h) (fun u h' => u = none ∧ jf_rel h' j g ∧ jf_fr j h h') := by
  refine jt_goM jm_m6 0 8 (pc' := 15) (L' := [(0, .inr (.inr (2, j, 0))), (1, .inr (.inr (2, i, 0)))]) (st' := []) (m' := jm_set h (2, j, 1) (va_cpy (h (2, i, 1)) (h (2, j, 1)) (nI 0).toNatClampNeg (nI 0).toNatClampNeg (nI 6).toNatClampNeg)) (P := (¬ (nI 0) < 0 ∧ ¬ (nI 0) < 0 ∧ ¬ (nI 6) < 0 ∧ (nI 0).toNatClampNeg + (nI 6).toNatClampNeg ≤ 6 ∧ (nI 0).toNatClampNeg + (nI 6).toNatClampNeg ≤ 6) ∧ True) rfl ⟨(by decide), trivial⟩ (fun h1 eh1 => ?_)
  have Fh1 : jf_fr j h h1 := by rw [eh1]; exact jf_fr_set jf_fr_rf ⟨Or.inl rfl, rfl⟩
  have Rh1 : jf_rel h1 i g := jf_mov R (fun k hk => Fh1 k (fun z => hij (hk.2.symm.trans z.2)))
  refine jt_goM jm_m6 8 8 (pc' := 30) (L' := [(0, .inr (.inr (2, j, 0))), (1, .inr (.inr (2, i, 0)))]) (st' := []) (m' := jm_set h1 (2, j, 2) (va_cpy (h1 (2, i, 2)) (h1 (2, j, 2)) (nI 0).toNatClampNeg (nI 0).toNatClampNeg (nI 6).toNatClampNeg)) (P := (¬ (nI 0) < 0 ∧ ¬ (nI 0) < 0 ∧ ¬ (nI 6) < 0 ∧ (nI 0).toNatClampNeg + (nI 6).toNatClampNeg ≤ 6 ∧ (nI 0).toNatClampNeg + (nI 6).toNatClampNeg ≤ 6) ∧ True) rfl ⟨(by decide), trivial⟩ (fun h2 eh2 => ?_)
  have Fh2 : jf_fr j h h2 := by rw [eh2]; exact jf_fr_set Fh1 ⟨Or.inl rfl, rfl⟩
  have Rh2 : jf_rel h2 i g := jf_mov R (fun k hk => Fh2 k (fun z => hij (hk.2.symm.trans z.2)))
  refine jt_goM jm_m6 16 8 (pc' := 45) (L' := [(0, .inr (.inr (2, j, 0))), (1, .inr (.inr (2, i, 0)))]) (st' := []) (m' := jm_set h2 (2, j, 3) (va_cpy (h2 (2, i, 3)) (h2 (2, j, 3)) (nI 0).toNatClampNeg (nI 0).toNatClampNeg (nI 6).toNatClampNeg)) (P := (¬ (nI 0) < 0 ∧ ¬ (nI 0) < 0 ∧ ¬ (nI 6) < 0 ∧ (nI 0).toNatClampNeg + (nI 6).toNatClampNeg ≤ 6 ∧ (nI 0).toNatClampNeg + (nI 6).toNatClampNeg ≤ 6) ∧ True) rfl ⟨(by decide), trivial⟩ (fun h3 eh3 => ?_)
  have Fh3 : jf_fr j h h3 := by rw [eh3]; exact jf_fr_set Fh2 ⟨Or.inl rfl, rfl⟩
  have Rh3 : jf_rel h3 i g := jf_mov R (fun k hk => Fh3 k (fun z => hij (hk.2.symm.trans z.2)))
  refine jt_goM jm_m6 24 8 (pc' := 60) (L' := [(0, .inr (.inr (2, j, 0))), (1, .inr (.inr (2, i, 0)))]) (st' := []) (m' := jm_set h3 (2, j, 4) (va_cpy (h3 (2, i, 4)) (h3 (2, j, 4)) (nI 0).toNatClampNeg (nI 0).toNatClampNeg (nI 6).toNatClampNeg)) (P := (¬ (nI 0) < 0 ∧ ¬ (nI 0) < 0 ∧ ¬ (nI 6) < 0 ∧ (nI 0).toNatClampNeg + (nI 6).toNatClampNeg ≤ 6 ∧ (nI 0).toNatClampNeg + (nI 6).toNatClampNeg ≤ 6) ∧ True) rfl ⟨(by decide), trivial⟩ (fun h4 eh4 => ?_)
  have Fh4 : jf_fr j h h4 := by rw [eh4]; exact jf_fr_set Fh3 ⟨Or.inl rfl, rfl⟩
  have Rh4 : jf_rel h4 i g := jf_mov R (fun k hk => Fh4 k (fun z => hij (hk.2.symm.trans z.2)))
  refine jt_goM jm_m6 32 8 (pc' := 75) (L' := [(0, .inr (.inr (2, j, 0))), (1, .inr (.inr (2, i, 0)))]) (st' := []) (m' := jm_set h4 (2, j, 5) (va_cpy (h4 (2, i, 5)) (h4 (2, j, 5)) (nI 0).toNatClampNeg (nI 0).toNatClampNeg (nI 6).toNatClampNeg)) (P := (¬ (nI 0) < 0 ∧ ¬ (nI 0) < 0 ∧ ¬ (nI 6) < 0 ∧ (nI 0).toNatClampNeg + (nI 6).toNatClampNeg ≤ 6 ∧ (nI 0).toNatClampNeg + (nI 6).toNatClampNeg ≤ 6) ∧ True) rfl ⟨(by decide), trivial⟩ (fun h5 eh5 => ?_)
  have Fh5 : jf_fr j h h5 := by rw [eh5]; exact jf_fr_set Fh4 ⟨Or.inl rfl, rfl⟩
  have Rh5 : jf_rel h5 i g := jf_mov R (fun k hk => Fh5 k (fun z => hij (hk.2.symm.trans z.2)))
  refine jt_goM jm_m6 40 8 (pc' := 90) (L' := [(0, .inr (.inr (2, j, 0))), (1, .inr (.inr (2, i, 0)))]) (st' := []) (m' := jm_set h5 (2, j, 6) (va_cpy (h5 (2, i, 6)) (h5 (2, j, 6)) (nI 0).toNatClampNeg (nI 0).toNatClampNeg (nI 6).toNatClampNeg)) (P := (¬ (nI 0) < 0 ∧ ¬ (nI 0) < 0 ∧ ¬ (nI 6) < 0 ∧ (nI 0).toNatClampNeg + (nI 6).toNatClampNeg ≤ 6 ∧ (nI 0).toNatClampNeg + (nI 6).toNatClampNeg ≤ 6) ∧ True) rfl ⟨(by decide), trivial⟩ (fun h6 eh6 => ?_)
  have Fh6 : jf_fr j h h6 := by rw [eh6]; exact jf_fr_set Fh5 ⟨Or.inl rfl, rfl⟩
  have Rh6 : jf_rel h6 i g := jf_mov R (fun k hk => Fh6 k (fun z => hij (hk.2.symm.trans z.2)))
  refine jt_goM jm_m6 48 8 (pc' := 105) (L' := [(0, .inr (.inr (2, j, 0))), (1, .inr (.inr (2, i, 0)))]) (st' := []) (m' := jm_set h6 (6, j, 0) (va_cpy (h6 (6, i, 0)) (h6 (6, j, 0)) (nI 0).toNatClampNeg (nI 0).toNatClampNeg (nI 16).toNatClampNeg)) (P := (¬ (nI 0) < 0 ∧ ¬ (nI 0) < 0 ∧ ¬ (nI 16) < 0 ∧ (nI 0).toNatClampNeg + (nI 16).toNatClampNeg ≤ 16 ∧ (nI 0).toNatClampNeg + (nI 16).toNatClampNeg ≤ 16) ∧ True) rfl ⟨(by decide), trivial⟩ (fun h7 eh7 => ?_)
  have Fh7 : jf_fr j h h7 := by rw [eh7]; exact jf_fr_set Fh6 ⟨Or.inr rfl, rfl⟩
  have Rh7 : jf_rel h7 i g := jf_mov R (fun k hk => Fh7 k (fun z => hij (hk.2.symm.trans z.2)))
  refine jt_goM jm_m6 56 8 (pc' := 120) (L' := [(0, .inr (.inr (2, j, 0))), (1, .inr (.inr (2, i, 0)))]) (st' := []) (m' := jm_set h7 (6, j, 1) (va_cpy (h7 (6, i, 1)) (h7 (6, j, 1)) (nI 0).toNatClampNeg (nI 0).toNatClampNeg (nI 16).toNatClampNeg)) (P := (¬ (nI 0) < 0 ∧ ¬ (nI 0) < 0 ∧ ¬ (nI 16) < 0 ∧ (nI 0).toNatClampNeg + (nI 16).toNatClampNeg ≤ 16 ∧ (nI 0).toNatClampNeg + (nI 16).toNatClampNeg ≤ 16) ∧ True) rfl ⟨(by decide), trivial⟩ (fun h8 eh8 => ?_)
  have Fh8 : jf_fr j h h8 := by rw [eh8]; exact jf_fr_set Fh7 ⟨Or.inr rfl, rfl⟩
  have Rh8 : jf_rel h8 i g := jf_mov R (fun k hk => Fh8 k (fun z => hij (hk.2.symm.trans z.2)))
  refine jt_go jm_m6 64 3 (f' := (125, [(0, .inr (.inr (2, j, 0))), (1, .inr (.inr (2, i, 0)))], [.inl (h8 (2, i, 0) 9), .inr (.inr (2, j, 0))], h8)) (P := True) rfl trivial ?_
  refine jt_ti (show (h8 (2, i, 0) 9) = nI (g 0) from jf_cats Rh8) ?_
  have bq1 := jw_n W
  refine jt_goM jm_m6 67 1 (pc' := 128) (L' := [(0, .inr (.inr (2, j, 0))), (1, .inr (.inr (2, i, 0)))]) (st' := []) (m' := jm_set h8 (2, j, 0) (upd (h8 (2, j, 0)) 9 (nI (g 0)))) (P := True) rfl trivial (fun h9 eh9 => ?_)
  have Fh9 : jf_fr j h h9 := by rw [eh9]; exact jf_fr_set Fh8 ⟨Or.inl rfl, rfl⟩
  have Rh9 : jf_rel h9 i g := jf_mov R (fun k hk => Fh9 k (fun z => hij (hk.2.symm.trans z.2)))
  refine jt_go jm_m6 68 3 (f' := (133, [(0, .inr (.inr (2, j, 0))), (1, .inr (.inr (2, i, 0)))], [.inl (h9 (2, i, 0) 10), .inr (.inr (2, j, 0))], h9)) (P := True) rfl trivial ?_
  refine jt_ti (show (h9 (2, i, 0) 10) = nI (g 1) from jf_men Rh9) ?_
  have bq2 := jw_m W
  refine jt_goM jm_m6 71 1 (pc' := 136) (L' := [(0, .inr (.inr (2, j, 0))), (1, .inr (.inr (2, i, 0)))]) (st' := []) (m' := jm_set h9 (2, j, 0) (upd (h9 (2, j, 0)) 10 (nI (g 1)))) (P := True) rfl trivial (fun h10 eh10 => ?_)
  have Fh10 : jf_fr j h h10 := by rw [eh10]; exact jf_fr_set Fh9 ⟨Or.inl rfl, rfl⟩
  have Rh10 : jf_rel h10 i g := jf_mov R (fun k hk => Fh10 k (fun z => hij (hk.2.symm.trans z.2)))
  refine jt_go jm_m6 72 3 (f' := (141, [(0, .inr (.inr (2, j, 0))), (1, .inr (.inr (2, i, 0)))], [.inl (h10 (2, i, 0) 11), .inr (.inr (2, j, 0))], h10)) (P := True) rfl trivial ?_
  refine jt_ti (show (h10 (2, i, 0) 11) = nI (g 2) from jf_hour Rh10) ?_
  have bq3 := jw_t W
  refine jt_goM jm_m6 75 1 (pc' := 144) (L' := [(0, .inr (.inr (2, j, 0))), (1, .inr (.inr (2, i, 0)))]) (st' := []) (m' := jm_set h10 (2, j, 0) (upd (h10 (2, j, 0)) 11 (nI (g 2)))) (P := True) rfl trivial (fun h11 eh11 => ?_)
  have Fh11 : jf_fr j h h11 := by rw [eh11]; exact jf_fr_set Fh10 ⟨Or.inl rfl, rfl⟩
  have Rh11 : jf_rel h11 i g := jf_mov R (fun k hk => Fh11 k (fun z => hij (hk.2.symm.trans z.2)))
  refine jt_go jm_m6 76 3 (f' := (149, [(0, .inr (.inr (2, j, 0))), (1, .inr (.inr (2, i, 0)))], [.inl (h11 (2, i, 0) 12), .inr (.inr (2, j, 0))], h11)) (P := True) rfl trivial ?_
  refine jt_ti (show (h11 (2, i, 0) 12) = nI (g 3) from jf_day Rh11) ?_
  refine jt_goM jm_m6 79 1 (pc' := 152) (L' := [(0, .inr (.inr (2, j, 0))), (1, .inr (.inr (2, i, 0)))]) (st' := []) (m' := jm_set h11 (2, j, 0) (upd (h11 (2, j, 0)) 12 (nI (g 3)))) (P := True) rfl trivial (fun h12 eh12 => ?_)
  have Fh12 : jf_fr j h h12 := by rw [eh12]; exact jf_fr_set Fh11 ⟨Or.inl rfl, rfl⟩
  have Rh12 : jf_rel h12 i g := jf_mov R (fun k hk => Fh12 k (fun z => hij (hk.2.symm.trans z.2)))
  refine jt_go jm_m6 80 3 (f' := (157, [(0, .inr (.inr (2, j, 0))), (1, .inr (.inr (2, i, 0)))], [.inl (h12 (2, i, 0) 13), .inr (.inr (2, j, 0))], h12)) (P := True) rfl trivial ?_
  refine jt_ti (show (h12 (2, i, 0) 13) = nI (sp_pb g) from jf_pass Rh12) ?_
  have bq4 := jw_pb W
  refine jt_goM jm_m6 83 1 (pc' := 160) (L' := [(0, .inr (.inr (2, j, 0))), (1, .inr (.inr (2, i, 0)))]) (st' := []) (m' := jm_set h12 (2, j, 0) (upd (h12 (2, j, 0)) 13 (nI (sp_pb g)))) (P := True) rfl trivial (fun h13 eh13 => ?_)
  have Fh13 : jf_fr j h h13 := by rw [eh13]; exact jf_fr_set Fh12 ⟨Or.inl rfl, rfl⟩
  have Rh13 : jf_rel h13 i g := jf_mov R (fun k hk => Fh13 k (fun z => hij (hk.2.symm.trans z.2)))
  refine jt_go jm_m6 84 3 (f' := (165, [(0, .inr (.inr (2, j, 0))), (1, .inr (.inr (2, i, 0)))], [.inl (h13 (2, i, 0) 14), .inr (.inr (2, j, 0))], h13)) (P := True) rfl trivial ?_
  refine jt_tn (fun x1 ex1 => ?_)
  refine jt_goM jm_m6 87 1 (pc' := 168) (L' := [(0, .inr (.inr (2, j, 0))), (1, .inr (.inr (2, i, 0)))]) (st' := []) (m' := jm_set h13 (2, j, 0) (upd (h13 (2, j, 0)) 14 x1)) (P := True) rfl trivial (fun h14 eh14 => ?_)
  have Fh14 : jf_fr j h h14 := by rw [eh14]; exact jf_fr_set Fh13 ⟨Or.inl rfl, rfl⟩
  have Rh14 : jf_rel h14 i g := jf_mov R (fun k hk => Fh14 k (fun z => hij (hk.2.symm.trans z.2)))
  refine jt_vret jm_m6 88 rfl ?_
  refine ⟨rfl, ?_, Fh14⟩
  refine ⟨?_, ?_, ?_, ?_, ?_, ?_, ?_, ?_, ?_, ?_, ?_, ?_, ?_⟩
  · rw [eh14, jm_set_eq, jx_ne (by decide), eh13, jm_set_eq, jx_ne (by decide), eh12, jm_set_eq, jx_ne (by decide), eh11, jm_set_eq, jx_ne (by decide), eh10, jm_set_eq, jx_ne (by decide), eh9, jm_set_eq, jx_eq]
  · rw [eh14, jm_set_eq, jx_ne (by decide), eh13, jm_set_eq, jx_ne (by decide), eh12, jm_set_eq, jx_ne (by decide), eh11, jm_set_eq, jx_ne (by decide), eh10, jm_set_eq, jx_eq]
  · rw [eh14, jm_set_eq, jx_ne (by decide), eh13, jm_set_eq, jx_ne (by decide), eh12, jm_set_eq, jx_ne (by decide), eh11, jm_set_eq, jx_eq]
  · rw [eh14, jm_set_eq, jx_ne (by decide), eh13, jm_set_eq, jx_ne (by decide), eh12, jm_set_eq, jx_eq]
  · rw [eh14, jm_set_eq, jx_ne (by decide), eh13, jm_set_eq, jx_eq]
  · intro p hp
    rw [eh14, jm_set_ne (by simp), eh13, jm_set_ne (by simp), eh12, jm_set_ne (by simp), eh11, jm_set_ne (by simp), eh10, jm_set_ne (by simp), eh9, jm_set_ne (by simp), eh8, jm_set_ne (by simp), eh7, jm_set_eq]
    exact (jx_cpy (x := nI 16) (by rw [nI_clamp (by decide)]; exact hp)).trans (Rh6.2.2.2.2.2.1 p hp)
  · intro p hp
    rw [eh14, jm_set_ne (by simp), eh13, jm_set_ne (by simp), eh12, jm_set_ne (by simp), eh11, jm_set_ne (by simp), eh10, jm_set_ne (by simp), eh9, jm_set_ne (by simp), eh8, jm_set_eq]
    exact (jx_cpy (x := nI 16) (by rw [nI_clamp (by decide)]; exact hp)).trans (Rh7.2.2.2.2.2.2.1 p hp)
  · intro p hp
    rw [eh14, jm_set_ne (by simp), eh13, jm_set_ne (by simp), eh12, jm_set_ne (by simp), eh11, jm_set_ne (by simp), eh10, jm_set_ne (by simp), eh9, jm_set_ne (by simp), eh8, jm_set_ne (by simp), eh7, jm_set_ne (by simp), eh6, jm_set_ne (by simp), eh5, jm_set_ne (by simp), eh4, jm_set_ne (by simp), eh3, jm_set_ne (by simp), eh2, jm_set_ne (by simp), eh1, jm_set_eq]
    exact (jx_cpy (x := nI 6) (by rw [nI_clamp (by decide)]; exact hp)).trans (R.2.2.2.2.2.2.2.1 p hp)
  · intro p hp
    rw [eh14, jm_set_ne (by simp), eh13, jm_set_ne (by simp), eh12, jm_set_ne (by simp), eh11, jm_set_ne (by simp), eh10, jm_set_ne (by simp), eh9, jm_set_ne (by simp), eh8, jm_set_ne (by simp), eh7, jm_set_ne (by simp), eh6, jm_set_ne (by simp), eh5, jm_set_ne (by simp), eh4, jm_set_ne (by simp), eh3, jm_set_ne (by simp), eh2, jm_set_eq]
    exact (jx_cpy (x := nI 6) (by rw [nI_clamp (by decide)]; exact hp)).trans (Rh1.2.2.2.2.2.2.2.2.1 p hp)
  · intro p hp
    rw [eh14, jm_set_ne (by simp), eh13, jm_set_ne (by simp), eh12, jm_set_ne (by simp), eh11, jm_set_ne (by simp), eh10, jm_set_ne (by simp), eh9, jm_set_ne (by simp), eh8, jm_set_ne (by simp), eh7, jm_set_ne (by simp), eh6, jm_set_ne (by simp), eh5, jm_set_ne (by simp), eh4, jm_set_ne (by simp), eh3, jm_set_eq]
    exact (jx_cpy (x := nI 6) (by rw [nI_clamp (by decide)]; exact hp)).trans (Rh2.2.2.2.2.2.2.2.2.2.1 p hp)
  · intro p hp
    rw [eh14, jm_set_ne (by simp), eh13, jm_set_ne (by simp), eh12, jm_set_ne (by simp), eh11, jm_set_ne (by simp), eh10, jm_set_ne (by simp), eh9, jm_set_ne (by simp), eh8, jm_set_ne (by simp), eh7, jm_set_ne (by simp), eh6, jm_set_ne (by simp), eh5, jm_set_ne (by simp), eh4, jm_set_eq]
    exact (jx_cpy (x := nI 6) (by rw [nI_clamp (by decide)]; exact hp)).trans (Rh3.2.2.2.2.2.2.2.2.2.2.1 p hp)
  · intro p hp
    rw [eh14, jm_set_ne (by simp), eh13, jm_set_ne (by simp), eh12, jm_set_ne (by simp), eh11, jm_set_ne (by simp), eh10, jm_set_ne (by simp), eh9, jm_set_ne (by simp), eh8, jm_set_ne (by simp), eh7, jm_set_ne (by simp), eh6, jm_set_ne (by simp), eh5, jm_set_eq]
    exact (jx_cpy (x := nI 6) (by rw [nI_clamp (by decide)]; exact hp)).trans (Rh4.2.2.2.2.2.2.2.2.2.2.2.1 p hp)
  · intro p hp
    rw [eh14, jm_set_ne (by simp), eh13, jm_set_ne (by simp), eh12, jm_set_ne (by simp), eh11, jm_set_ne (by simp), eh10, jm_set_ne (by simp), eh9, jm_set_ne (by simp), eh8, jm_set_ne (by simp), eh7, jm_set_ne (by simp), eh6, jm_set_eq]
    exact (jx_cpy (x := nI 6) (by rw [nI_clamp (by decide)]; exact hp)).trans (Rh5.2.2.2.2.2.2.2.2.2.2.2.2 p hp)
end
section
/-! THE FACE: frame of the observers; simple questions. -/
theorem jf_mov0 {h h2 : jm_M} {g : Nat → Nat} (R : jf_rel h 0 g) (F : jf_fr 1 h h2) : jf_rel h2 0 g := jf_mov R (fun k hk => F k (fun z => absurd (hk.2.symm.trans z.2) (by decide)))
theorem jg_mov0 {h h2 : jm_M} {g : Nat → Nat} (R : jg_rel h 0 g) (F : jg_fr 1 h h2) : jg_rel h2 0 g := fun i hi => by rw [F (5, 0, 0) (by decide)]; exact R i hi
theorem jx_win2 {x : Int32} {a n : Nat} (ha : a < 2 ^ 31) (hn : n < 2 ^ 31) (h : nI a ≤ x ∧ x ≤ nI n) : ∃ c : Nat, a ≤ c ∧ c ≤ n ∧ x = nI c := by
  have h1 := Int32.le_iff_toInt_le.mp h.1
  have h2 := Int32.le_iff_toInt_le.mp h.2
  rw [nI_toInt ha] at h1
  rw [nI_toInt hn] at h2
  refine ⟨x.toInt.toNat, by omega, by omega, Int32.toInt_inj.mp ?_⟩
  rw [nI_toInt (by omega)]
  omega
theorem jx_nwin {x : Int32} {n : Nat} (hn : n < 2 ^ 31) (h : ∀ j, j ≤ n → ¬ x = nI j) : ¬ (nI 0 ≤ x ∧ x ≤ nI n) := by
  intro z
  obtain ⟨j, hj, e⟩ := jx_win hn z
  exact h j hj e
set_option maxHeartbeats 4000000 in
set_option maxRecDepth 20000 in
theorem ta_look {h : jm_M} {g : Nat → Nat} (R : jf_rel h 0 g) (W : jw g) {n : Nat} (hn : n < 2 ^ 31) : jt_T 132 (0, [(0, .inr (.inr (0, 0, 0))), (1, .inl (nI n))], [], h) (fun u h' => u = none ∧ jf_rel h' 1 (sp_it g n) ∧ jf_fr 1 h h') := by
  refine jt_go jm_m132 0 4 (f' := (8, [(0, .inr (.inr (0, 0, 0))), (1, .inl (nI n))], [.inr (.inr (2, 0, 0)), .inr (.inr (2, 1, 0))], h)) (P := True) rfl trivial ?_
  refine jt_call jm_m132 4 (mi' := 6) (as := [.inr (.inr (2, 1, 0)), .inr (.inr (2, 0, 0))]) (rest := []) (nxt := 11) rfl rfl jm_m6 rfl rfl (ta_becomes R W (by decide)) ?_
  rintro u h1 ⟨rfl, Rh1, Fh1⟩
  show jt_T 132 (11, [(0, .inr (.inr (0, 0, 0))), (1, .inl (nI n))], [], h1) _
  have Wh1 : jw (g) := W
  have Zh1 := jf_mov0 R Fh1
  refine jt_go jm_m132 5 3 (f' := (16, [(0, .inr (.inr (0, 0, 0))), (1, .inl (nI n))], [.inl (nI n), .inr (.inr (2, 1, 0))], h1)) (P := True) rfl trivial ?_
  refine jt_call jm_m132 8 (mi' := 17) (as := [.inr (.inr (2, 1, 0)), .inl (nI n)]) (rest := []) (nxt := 19) rfl rfl jm_m17 rfl rfl (ta_goOn Rh1 Wh1 (by omega)) ?_
  rintro u h2 ⟨rfl, Rh2, Fh2⟩
  show jt_T 132 (19, [(0, .inr (.inr (0, 0, 0))), (1, .inl (nI n))], [], h2) _
  have Wh2 : jw (sp_it g n) := (jw_it Wh1 _).1
  have Zh2 := jf_mov0 Zh1 Fh2
  have Fh2 := jf_fr_tr Fh1 Fh2
  refine jt_vret jm_m132 9 rfl ?_
  exact ⟨rfl, Rh2, Fh2⟩
set_option maxHeartbeats 4000000 in
set_option maxRecDepth 20000 in
theorem tb_takes {h : jm_M} {g : Nat → Nat} (R : jg_rel h 0 g) (W : jw g) {n : Nat} (hn : n < 2 ^ 31) : jt_T 185 (0, [(0, .inr (.inr (4, 0, 0))), (1, .inl (nI n))], [], h) (fun u h' => u = none ∧ jg_rel h' 1 (sp_it g n) ∧ jg_fr 1 h h') := by
  refine jt_go jm_m185 0 4 (f' := (8, [(0, .inr (.inr (4, 0, 0))), (1, .inl (nI n))], [.inr (.inr (5, 1, 0)), .inr (.inr (5, 0, 0))], h)) (P := True) rfl trivial ?_
  refine jt_call jm_m185 4 (mi' := 146) (as := [.inr (.inr (5, 0, 0)), .inr (.inr (5, 1, 0))]) (rest := []) (nxt := 11) rfl rfl jm_m146 rfl rfl (tb_copies R (by decide)) ?_
  rintro u h1 ⟨rfl, Rh1, Fh1⟩
  show jt_T 185 (11, [(0, .inr (.inr (4, 0, 0))), (1, .inl (nI n))], [], h1) _
  have Wh1 : jw (g) := W
  have Zh1 := jg_mov0 R Fh1
  refine jt_go jm_m185 5 3 (f' := (16, [(0, .inr (.inr (4, 0, 0))), (1, .inl (nI n))], [.inl (nI n), .inr (.inr (5, 1, 0))], h1)) (P := True) rfl trivial ?_
  refine jt_call jm_m185 8 (mi' := 164) (as := [.inr (.inr (5, 1, 0)), .inl (nI n)]) (rest := []) (nxt := 19) rfl rfl jm_m164 rfl rfl (tb_goOn Rh1 Wh1 (by omega)) ?_
  rintro u h2 ⟨rfl, Rh2, Fh2⟩
  show jt_T 185 (19, [(0, .inr (.inr (4, 0, 0))), (1, .inl (nI n))], [], h2) _
  have Wh2 : jw (sp_it g n) := (jw_it Wh1 _).1
  have Zh2 := jg_mov0 Zh1 Fh2
  have Fh2 := jg_fr_tr Fh1 Fh2
  refine jt_vret jm_m185 9 rfl ?_
  exact ⟨rfl, Rh2, Fh2⟩
def zb_man (g : Nat → Nat) (p w : Nat) : Int32 := if w = 0 then nI (g (66 + 2 * p)) else jm_b (g (67 + 2 * p) = 1)
def za_man (g : Nat → Nat) (x y : Int32) : Int32 := if (nI 0 ≤ x ∧ x < nI (g 1)) ∧ (nI 0 ≤ y ∧ y ≤ nI 1) then zb_man g x.toNatClampNeg y.toNatClampNeg else (-1)
set_option maxHeartbeats 4000000 in
set_option maxRecDepth 20000 in
theorem ca_man {h : jm_M} {g : Nat → Nat} (R : jf_rel h 0 g) (W : jw g) {x y : Int32} : jt_T 76 (0, [(0, .inr (.inr (0, 0, 0))), (1, .inl (x)), (2, .inl (y))], [], h) (fun u h' => u = some (.inl (za_man g x y)) ∧ jf_fr 1 h h') := by
  have bn := jw_n W
  have bm := jw_m W
  have bt := jw_t W
  refine jt_go jm_m76 0 3 (f' := (5, [(0, .inr (.inr (0, 0, 0))), (1, .inl (x)), (2, .inl (y))], [.inl (x), .inr (.inr (2, 0, 0))], h)) (P := True) rfl trivial ?_
  refine jt_callp (w := .inl (jm_b (nI 0 ≤ x ∧ x < nI (g 1)))) jm_m76 3 (mi' := 8) (as := [.inr (.inr (2, 0, 0)), .inl (x)]) (rest := []) (nxt := 8) rfl rfl jm_m8 rfl rfl (ta_hasMan R W) ?_
  refine jt_ifbne jm_m76 4 (tgt := 13) (nxt := 11) rfl rfl rfl (fun c8 => ?_) (fun c8 => ?_)
  · obtain ⟨p, hbp, rfl⟩ := jx_cat (by omega) c8
    refine jt_go jm_m76 7 1 (f' := (14, [(0, .inr (.inr (0, 0, 0))), (1, .inl (nI p)), (2, .inl (y))], [.inl (y)], h)) (P := True) rfl trivial ?_
    refine jt_ls jm_m76 8 rfl ⟨fun d0 => ?_, fun d0 => ⟨fun d1 => ?_, fun d1 => ?_⟩⟩
    · have d0 : y = nI 0 := d0
      show jt_T 76 (40, [(0, .inr (.inr (0, 0, 0))), (1, .inl (nI p)), (2, .inl (y))], [], h) _
      refine jt_go jm_m76 9 5 (f' := (49, [(0, .inr (.inr (0, 0, 0))), (1, .inl (nI p)), (2, .inl (y))], [.inl (h (2, 0, 6) (nI p).toNatClampNeg)], h)) (P := vp_in (nI p) 6 ∧ True) rfl ⟨(vp_in_nI (by omega) (by decide)), trivial⟩ ?_
      refine jt_ti (show (h (2, 0, 6) (nI p).toNatClampNeg) = nI (g (66 + 2 * p)) from jf_side R (c := p) (nI_clamp (by omega)) (by omega)) ?_
      have bq1 := jw_side W (c := p) (by omega)
      refine jt_iret jm_m76 14 rfl ?_
      subst d0
      refine ⟨jt_li ?_, jf_fr_rf⟩
      unfold za_man
      rw [if_pos ⟨c8, ⟨nI_pos' (by decide), (nI_leI (by decide) (by decide)).mpr (by decide)⟩⟩, nI_clamp (n := p) (by omega), nI_clamp (n := 0) (by omega)]
      unfold zb_man
      (repeat' split) <;> first | done | rfl | (exfalso; omega) | exact (jm_b_pos (by assumption)).symm | exact (jm_b_neg (by assumption)).symm | exact congrArg (fun z => nI (g z)) (by omega) | exact congrArg nI (by omega) | (congr 1; omega)
    · have d1 : y = nI 1 := d1
      show jt_T 76 (50, [(0, .inr (.inr (0, 0, 0))), (1, .inl (nI p)), (2, .inl (y))], [], h) _
      refine jt_go jm_m76 15 3 (f' := (55, [(0, .inr (.inr (0, 0, 0))), (1, .inl (nI p)), (2, .inl (y))], [.inl (nI p), .inr (.inr (2, 0, 0))], h)) (P := True) rfl trivial ?_
      refine jt_callp (w := .inl (jm_b (g (67 + 2 * p) = 1))) jm_m76 18 (mi' := 10) (as := [.inr (.inr (2, 0, 0)), .inl (nI p)]) (rest := []) (nxt := 58) rfl rfl jm_m10 rfl rfl (ta_hasPassed R W (by omega)) ?_
      have bq2 := jw_pas W (c := p) (by omega)
      refine jt_ifbeq jm_m76 19 (tgt := 65) (nxt := 61) rfl rfl rfl (fun c58 => ?_) (fun c58 => ?_)
      · refine jt_go jm_m76 22 1 (f' := (66, [(0, .inr (.inr (0, 0, 0))), (1, .inl (nI p)), (2, .inl (y))], [.inl (nI 0)], h)) (P := True) rfl trivial ?_
        refine jt_iret jm_m76 23 rfl ?_
        subst d1
        refine ⟨jt_li ?_, jf_fr_rf⟩
        unfold za_man
        rw [if_pos ⟨c8, ⟨nI_pos' (by decide), (nI_leI (by decide) (by decide)).mpr (by decide)⟩⟩, nI_clamp (n := p) (by omega), nI_clamp (n := 1) (by omega)]
        unfold zb_man
        (repeat' split) <;> first | done | rfl | (exfalso; omega) | exact (jm_b_pos (by assumption)).symm | exact (jm_b_neg (by assumption)).symm | exact congrArg (fun z => nI (g z)) (by omega) | exact congrArg nI (by omega) | (congr 1; omega)
      · refine jt_go jm_m76 20 2 (f' := (66, [(0, .inr (.inr (0, 0, 0))), (1, .inl (nI p)), (2, .inl (y))], [.inl (nI 1)], h)) (P := True) rfl trivial ?_
        refine jt_iret jm_m76 23 rfl ?_
        subst d1
        refine ⟨jt_li ?_, jf_fr_rf⟩
        unfold za_man
        rw [if_pos ⟨c8, ⟨nI_pos' (by decide), (nI_leI (by decide) (by decide)).mpr (by decide)⟩⟩, nI_clamp (n := p) (by omega), nI_clamp (n := 1) (by omega)]
        unfold zb_man
        (repeat' split) <;> first | done | rfl | (exfalso; omega) | exact (jm_b_pos (by assumption)).symm | exact (jm_b_neg (by assumption)).symm | exact congrArg (fun z => nI (g z)) (by omega) | exact congrArg nI (by omega) | (congr 1; omega)
    · show jt_T 76 (67, [(0, .inr (.inr (0, 0, 0))), (1, .inl (nI p)), (2, .inl (y))], [], h) _
      refine jt_go jm_m76 24 1 (f' := (68, [(0, .inr (.inr (0, 0, 0))), (1, .inl (nI p)), (2, .inl (y))], [.inl ((-1))], h)) (P := True) rfl trivial ?_
      refine jt_iret jm_m76 25 rfl ?_
      exact ⟨jt_li (if_neg (fun z => jx_nwin (by decide) (fun j hj => by
        rcases (show j = 0 ∨ j = 1 by omega) with rfl | rfl
        · exact d0
        · exact d1) z.2)).symm, jf_fr_rf⟩
  · refine jt_go jm_m76 5 1 (f' := (12, [(0, .inr (.inr (0, 0, 0))), (1, .inl (x)), (2, .inl (y))], [.inl ((-1))], h)) (P := True) rfl trivial ?_
    refine jt_iret jm_m76 6 rfl ?_
    exact ⟨jt_li (if_neg (fun z => c8 z.1)).symm, jf_fr_rf⟩
set_option maxHeartbeats 4000000 in
set_option maxRecDepth 20000 in
theorem cb_man {h : jm_M} {g : Nat → Nat} (R : jg_rel h 0 g) (W : jw g) {x y : Int32} : jt_T 176 (0, [(0, .inr (.inr (4, 0, 0))), (1, .inl (x)), (2, .inl (y))], [], h) (fun u h' => u = some (.inl (za_man g x y)) ∧ jg_fr 1 h h') := by
  have bn := jw_n W
  have bm := jw_m W
  have bt := jw_t W
  refine jt_go jm_m176 0 2 (f' := (2, [(0, .inr (.inr (4, 0, 0))), (1, .inl (x)), (2, .inl (y))], [.inl (x), .inr (.inr (4, 0, 0))], h)) (P := True) rfl trivial ?_
  refine jt_callp (w := .inl (jm_b (nI 0 ≤ x ∧ x < nI (g 1)))) jm_m176 2 (mi' := 150) (as := [.inr (.inr (4, 0, 0)), .inl (x)]) (rest := []) (nxt := 5) rfl rfl jm_m150 rfl rfl (tb_isMan R W) ?_
  refine jt_ifbeq jm_m176 3 (tgt := 30) (nxt := 8) rfl rfl rfl (fun c5 => ?_) (fun c5 => ?_)
  · refine jt_go jm_m176 16 1 (f' := (31, [(0, .inr (.inr (4, 0, 0))), (1, .inl (x)), (2, .inl (y))], [.inl ((-1))], h)) (P := True) rfl trivial ?_
    refine jt_iret jm_m176 17 rfl ?_
    exact ⟨jt_li (if_neg (fun z => c5 z.1)).symm, jg_fr_rf⟩
  · obtain ⟨p, hbp, rfl⟩ := jx_cat (by omega) c5
    refine jt_go jm_m176 4 3 (f' := (11, [(0, .inr (.inr (4, 0, 0))), (1, .inl (nI p)), (2, .inl (y))], [.inl (nI 1), .inl (nI 0), .inl (y)], h)) (P := True) rfl trivial ?_
    refine jt_callp (w := .inl (jm_b (nI 0 ≤ y ∧ y ≤ nI 1))) jm_m176 7 (mi' := 143) (as := [.inl (y), .inl (nI 0), .inl (nI 1)]) (rest := []) (nxt := 14) rfl rfl jm_m143 rfl rfl (tb_isIn) ?_
    refine jt_ifbeq jm_m176 8 (tgt := 30) (nxt := 17) rfl rfl rfl (fun c14 => ?_) (fun c14 => ?_)
    · refine jt_go jm_m176 16 1 (f' := (31, [(0, .inr (.inr (4, 0, 0))), (1, .inl (nI p)), (2, .inl (y))], [.inl ((-1))], h)) (P := True) rfl trivial ?_
      refine jt_iret jm_m176 17 rfl ?_
      exact ⟨jt_li (if_neg (fun z => c14 z.2)).symm, jg_fr_rf⟩
    · obtain ⟨w, hbw, rfl⟩ := jx_win (by decide) c14
      refine jt_go jm_m176 9 4 (f' := (23, [(0, .inr (.inr (4, 0, 0))), (1, .inl (nI p)), (2, .inl (nI w))], [.inl (nI w), .inl (nI p), .inr (.inr (5, 0, 0))], h)) (P := True) rfl trivial ?_
      refine jt_callp (w := .inl (nI (66 + 2 * p + w))) jm_m176 13 (mi' := 148) (as := [.inl (nI p), .inl (nI w)]) (rest := [.inr (.inr (5, 0, 0))]) (nxt := 26) rfl rfl jm_m148 rfl rfl (tb_ofM (k := 66 + 2 * p + w) (by omega)) ?_
      refine jt_go jm_m176 14 1 (f' := (27, [(0, .inr (.inr (4, 0, 0))), (1, .inl (nI p)), (2, .inl (nI w))], [.inl (h (5, 0, 0) (nI (66 + 2 * p + w)).toNatClampNeg)], h)) (P := vp_in (nI (66 + 2 * p + w)) 78 ∧ True) rfl ⟨(vp_in_nI (by omega) (by decide)), trivial⟩ ?_
      refine jt_ti (show (h (5, 0, 0) (nI (66 + 2 * p + w)).toNatClampNeg) = nI (g (66 + 2 * p + w)) from jg_get R (k := 66 + 2 * p + w) (nI_clamp (by omega)) (by omega)) ?_
      refine jt_go jm_m176 15 1 (f' := (31, [(0, .inr (.inr (4, 0, 0))), (1, .inl (nI p)), (2, .inl (nI w))], [.inl (nI (g (66 + 2 * p + w)))], h)) (P := True) rfl trivial ?_
      refine jt_iret jm_m176 17 rfl ?_
      refine ⟨jt_li ?_, jg_fr_rf⟩
      unfold za_man
      rw [if_pos ⟨c5, c14⟩, nI_clamp (n := p) (by omega), nI_clamp (n := w) (by omega)]
      unfold zb_man
      have b1 := jw_pas W (c := p) (by omega)
      rcases (show w = 0 ∨ w = 1 by omega) with rfl | rfl
      · rfl
      · have e : 66 + 2 * p + 1 = 67 + 2 * p := by omega
        rw [e]
        show nI (g (67 + 2 * p)) = jm_b _
        rcases (show g (67 + 2 * p) = 0 ∨ g (67 + 2 * p) = 1 by omega) with q | q
        · rw [jm_b_neg (by omega)]; exact congrArg nI q
        · rw [jm_b_pos q]; exact congrArg nI q
def zb_place (g : Nat → Nat) (p w : Nat) : Int32 := if w = 0 then nI (g (4 + p)) else if w = 1 then nI (g (20 + p)) else nI (sp_bits (fun c => decide (g (38 + 5 * c) = p)) (g 0))
def za_place (g : Nat → Nat) (x y : Int32) : Int32 := if (nI 0 ≤ x ∧ x ≤ nI 15) ∧ (nI 0 ≤ y ∧ y ≤ nI 2) then zb_place g x.toNatClampNeg y.toNatClampNeg else (-1)
set_option maxHeartbeats 4000000 in
set_option maxRecDepth 20000 in
theorem ca_place {h : jm_M} {g : Nat → Nat} (R : jf_rel h 0 g) (W : jw g) {x y : Int32} : jt_T 77 (0, [(0, .inr (.inr (0, 0, 0))), (1, .inl (x)), (2, .inl (y))], [], h) (fun u h' => u = some (.inl (za_place g x y)) ∧ jf_fr 1 h h') := by
  have bn := jw_n W
  have bm := jw_m W
  have bt := jw_t W
  refine jt_go jm_m77 0 1 (f' := (1, [(0, .inr (.inr (0, 0, 0))), (1, .inl (x)), (2, .inl (y))], [.inl (x)], h)) (P := True) rfl trivial ?_
  refine jt_callp (w := .inl (jm_b (nI 0 ≤ x ∧ x ≤ nI 15))) jm_m77 1 (mi' := 138) (as := [.inl (x)]) (rest := []) (nxt := 4) rfl rfl jm_m138 rfl rfl (ta_place) ?_
  refine jt_ifbne jm_m77 2 (tgt := 9) (nxt := 7) rfl rfl rfl (fun c4 => ?_) (fun c4 => ?_)
  · obtain ⟨p, hbp, rfl⟩ := jx_win (by decide) c4
    refine jt_go jm_m77 5 1 (f' := (10, [(0, .inr (.inr (0, 0, 0))), (1, .inl (nI p)), (2, .inl (y))], [.inl (y)], h)) (P := True) rfl trivial ?_
    refine jt_ts jm_m77 6 rfl ⟨fun d0 => ?_, fun d0 => ⟨fun d1 => ?_, fun d1 => ⟨fun d2 => ?_, fun d2 => ?_⟩⟩⟩
    · have d0 : y = nI 0 := d0
      show jt_T 77 (36, [(0, .inr (.inr (0, 0, 0))), (1, .inl (nI p)), (2, .inl (y))], [], h) _
      refine jt_go jm_m77 7 5 (f' := (45, [(0, .inr (.inr (0, 0, 0))), (1, .inl (nI p)), (2, .inl (y))], [.inl (h (6, 0, 0) (nI p).toNatClampNeg)], h)) (P := vp_in (nI p) 16 ∧ True) rfl ⟨(vp_in_nI (by omega) (by decide)), trivial⟩ ?_
      refine jt_ti (show (h (6, 0, 0) (nI p).toNatClampNeg) = nI (g (4 + p)) from jf_fish R (c := p) (nI_clamp (by omega)) (by omega)) ?_
      have bq1 := jw_fish W (p := p) (by omega)
      refine jt_iret jm_m77 12 rfl ?_
      subst d0
      refine ⟨jt_li ?_, jf_fr_rf⟩
      unfold za_place
      rw [if_pos ⟨c4, ⟨nI_pos' (by decide), (nI_leI (by decide) (by decide)).mpr (by decide)⟩⟩, nI_clamp (n := p) (by omega), nI_clamp (n := 0) (by omega)]
      unfold zb_place
      (repeat' split) <;> first | done | rfl | (exfalso; omega) | exact (jm_b_pos (by assumption)).symm | exact (jm_b_neg (by assumption)).symm | exact congrArg (fun z => nI (g z)) (by omega) | exact congrArg nI (by omega) | (congr 1; omega)
    · have d1 : y = nI 1 := d1
      show jt_T 77 (46, [(0, .inr (.inr (0, 0, 0))), (1, .inl (nI p)), (2, .inl (y))], [], h) _
      refine jt_go jm_m77 13 5 (f' := (55, [(0, .inr (.inr (0, 0, 0))), (1, .inl (nI p)), (2, .inl (y))], [.inl (h (6, 0, 1) (nI p).toNatClampNeg)], h)) (P := vp_in (nI p) 16 ∧ True) rfl ⟨(vp_in_nI (by omega) (by decide)), trivial⟩ ?_
      refine jt_ti (show (h (6, 0, 1) (nI p).toNatClampNeg) = nI (g (20 + p)) from jf_mice R (c := p) (nI_clamp (by omega)) (by omega)) ?_
      have bq2 := jw_mice W (p := p) (by omega)
      refine jt_iret jm_m77 18 rfl ?_
      subst d1
      refine ⟨jt_li ?_, jf_fr_rf⟩
      unfold za_place
      rw [if_pos ⟨c4, ⟨nI_pos' (by decide), (nI_leI (by decide) (by decide)).mpr (by decide)⟩⟩, nI_clamp (n := p) (by omega), nI_clamp (n := 1) (by omega)]
      unfold zb_place
      (repeat' split) <;> first | done | rfl | (exfalso; omega) | exact (jm_b_pos (by assumption)).symm | exact (jm_b_neg (by assumption)).symm | exact congrArg (fun z => nI (g z)) (by omega) | exact congrArg nI (by omega) | (congr 1; omega)
    · have d2 : y = nI 2 := d2
      show jt_T 77 (56, [(0, .inr (.inr (0, 0, 0))), (1, .inl (nI p)), (2, .inl (y))], [], h) _
      refine jt_go jm_m77 19 3 (f' := (61, [(0, .inr (.inr (0, 0, 0))), (1, .inl (nI p)), (2, .inl (y))], [.inl (nI p), .inr (.inr (2, 0, 0))], h)) (P := True) rfl trivial ?_
      refine jt_callp (w := .inl (nI (sp_bits (fun c => decide (g (38 + 5 * c) = p)) (g 0)))) jm_m77 22 (mi' := 28) (as := [.inr (.inr (2, 0, 0)), .inl (nI p)]) (rest := []) (nxt := 64) rfl rfl jm_m28 rfl rfl (ta_catsAt R W (by omega)) ?_
      refine jt_iret jm_m77 23 rfl ?_
      subst d2
      refine ⟨jt_li ?_, jf_fr_rf⟩
      unfold za_place
      rw [if_pos ⟨c4, ⟨nI_pos' (by decide), (nI_leI (by decide) (by decide)).mpr (by decide)⟩⟩, nI_clamp (n := p) (by omega), nI_clamp (n := 2) (by omega)]
      unfold zb_place
      (repeat' split) <;> first | done | rfl | (exfalso; omega) | exact (jm_b_pos (by assumption)).symm | exact (jm_b_neg (by assumption)).symm | exact congrArg (fun z => nI (g z)) (by omega) | exact congrArg nI (by omega) | (congr 1; omega)
    · show jt_T 77 (65, [(0, .inr (.inr (0, 0, 0))), (1, .inl (nI p)), (2, .inl (y))], [], h) _
      refine jt_go jm_m77 24 1 (f' := (66, [(0, .inr (.inr (0, 0, 0))), (1, .inl (nI p)), (2, .inl (y))], [.inl ((-1))], h)) (P := True) rfl trivial ?_
      refine jt_iret jm_m77 25 rfl ?_
      exact ⟨jt_li (if_neg (fun z => jx_nwin (by decide) (fun j hj => by
        rcases (show j = 0 ∨ j = 1 ∨ j = 2 by omega) with rfl | rfl | rfl
        · exact d0
        · exact d1
        · exact d2) z.2)).symm, jf_fr_rf⟩
  · refine jt_go jm_m77 3 1 (f' := (8, [(0, .inr (.inr (0, 0, 0))), (1, .inl (x)), (2, .inl (y))], [.inl ((-1))], h)) (P := True) rfl trivial ?_
    refine jt_iret jm_m77 4 rfl ?_
    exact ⟨jt_li (if_neg (fun z => c4 z.1)).symm, jf_fr_rf⟩
set_option maxHeartbeats 4000000 in
set_option maxRecDepth 20000 in
theorem cb_place {h : jm_M} {g : Nat → Nat} (R : jg_rel h 0 g) (W : jw g) {x y : Int32} : jt_T 178 (0, [(0, .inr (.inr (4, 0, 0))), (1, .inl (x)), (2, .inl (y))], [], h) (fun u h' => u = some (.inl (za_place g x y)) ∧ jg_fr 1 h h') := by
  have bn := jw_n W
  have bm := jw_m W
  have bt := jw_t W
  refine jt_go jm_m178 0 1 (f' := (1, [(0, .inr (.inr (4, 0, 0))), (1, .inl (x)), (2, .inl (y))], [.inl (x)], h)) (P := True) rfl trivial ?_
  refine jt_callp (w := .inl (jm_b (nI 0 ≤ x ∧ x ≤ nI 15))) jm_m178 1 (mi' := 151) (as := [.inl (x)]) (rest := []) (nxt := 4) rfl rfl jm_m151 rfl rfl (tb_place) ?_
  refine jt_ifbeq jm_m178 2 (tgt := 16) (nxt := 7) rfl rfl rfl (fun c4 => ?_) (fun c4 => ?_)
  · refine jt_go jm_m178 8 1 (f' := (17, [(0, .inr (.inr (4, 0, 0))), (1, .inl (x)), (2, .inl (y))], [.inl ((-1))], h)) (P := True) rfl trivial ?_
    refine jt_iret jm_m178 9 rfl ?_
    exact ⟨jt_li (if_neg (fun z => c4 z.1)).symm, jg_fr_rf⟩
  · obtain ⟨p, hbp, rfl⟩ := jx_win (by decide) c4
    refine jt_go jm_m178 3 3 (f' := (10, [(0, .inr (.inr (4, 0, 0))), (1, .inl (nI p)), (2, .inl (y))], [.inl (nI 2), .inl (nI 0), .inl (y)], h)) (P := True) rfl trivial ?_
    refine jt_callp (w := .inl (jm_b (nI 0 ≤ y ∧ y ≤ nI 2))) jm_m178 6 (mi' := 143) (as := [.inl (y), .inl (nI 0), .inl (nI 2)]) (rest := []) (nxt := 13) rfl rfl jm_m143 rfl rfl (tb_isIn) ?_
    refine jt_ifbne jm_m178 7 (tgt := 18) (nxt := 16) rfl rfl rfl (fun c13 => ?_) (fun c13 => ?_)
    · obtain ⟨w, hbw, rfl⟩ := jx_win (by decide) c13
      refine jt_go jm_m178 10 1 (f' := (19, [(0, .inr (.inr (4, 0, 0))), (1, .inl (nI p)), (2, .inl (nI w))], [.inl (nI w)], h)) (P := True) rfl trivial ?_
      refine jt_nifne jm_m178 11 (by omega) (tgt := 33) (nxt := 22) rfl rfl rfl (fun c19 => ?_) (fun c19 => ?_)
      · refine jt_go jm_m178 19 2 (f' := (35, [(0, .inr (.inr (4, 0, 0))), (1, .inl (nI p)), (2, .inl (nI w))], [.inl (nI 1), .inl (nI w)], h)) (P := True) rfl trivial ?_
        refine jt_nicne jm_m178 21 (a := w) (b := 1) (by omega) (by omega) (tgt := 50) (nxt := 38) rfl rfl rfl (fun c35 => ?_) (fun c35 => ?_)
        · refine jt_go jm_m178 29 3 (f' := (55, [(0, .inr (.inr (4, 0, 0))), (1, .inl (nI p)), (2, .inl (nI w))], [.inl (nI p), .inr (.inr (5, 0, 0))], h)) (P := True) rfl trivial ?_
          refine jt_callp (w := .inl (nI (sp_bits (fun c => decide (g (38 + 5 * c) = p)) (g 0)))) jm_m178 32 (mi' := 177) (as := [.inr (.inr (5, 0, 0)), .inl (nI p)]) (rest := []) (nxt := 58) rfl rfl jm_m177 rfl rfl (tb_catsAt R W (by omega)) ?_
          refine jt_iret jm_m178 33 rfl ?_
          refine ⟨jt_li ?_, jg_fr_rf⟩
          unfold za_place
          rw [if_pos ⟨c4, c13⟩, nI_clamp (n := p) (by omega), nI_clamp (n := w) (by omega)]
          unfold zb_place
          (repeat' split) <;> first | done | rfl | (exfalso; omega) | exact (jm_b_pos (by assumption)).symm | exact (jm_b_neg (by assumption)).symm | exact congrArg (fun z => nI (g z)) (by omega) | exact congrArg nI (by omega) | (congr 1; omega)
        · refine jt_go jm_m178 22 5 (f' := (46, [(0, .inr (.inr (4, 0, 0))), (1, .inl (nI p)), (2, .inl (nI w))], [.inl ((nI 20) + (nI p)), .inr (.inr (5, 0, 0))], h)) (P := True) rfl trivial ?_
          refine jt_ti (show ((nI 20) + (nI p)) = nI (20 + p) from nI_add _ _) ?_
          refine jt_go jm_m178 27 1 (f' := (47, [(0, .inr (.inr (4, 0, 0))), (1, .inl (nI p)), (2, .inl (nI w))], [.inl (h (5, 0, 0) (nI (20 + p)).toNatClampNeg)], h)) (P := vp_in (nI (20 + p)) 78 ∧ True) rfl ⟨(vp_in_nI (by omega) (by decide)), trivial⟩ ?_
          refine jt_ti (show (h (5, 0, 0) (nI (20 + p)).toNatClampNeg) = nI (g (20 + p)) from jg_get R (k := 20 + p) (nI_clamp (by omega)) (by omega)) ?_
          have bq1 := jw_mice W (p := p) (by omega)
          refine jt_go jm_m178 28 1 (f' := (58, [(0, .inr (.inr (4, 0, 0))), (1, .inl (nI p)), (2, .inl (nI w))], [.inl (nI (g (20 + p)))], h)) (P := True) rfl trivial ?_
          refine jt_iret jm_m178 33 rfl ?_
          refine ⟨jt_li ?_, jg_fr_rf⟩
          unfold za_place
          rw [if_pos ⟨c4, c13⟩, nI_clamp (n := p) (by omega), nI_clamp (n := w) (by omega)]
          unfold zb_place
          (repeat' split) <;> first | done | rfl | (exfalso; omega) | exact (jm_b_pos (by assumption)).symm | exact (jm_b_neg (by assumption)).symm | exact congrArg (fun z => nI (g z)) (by omega) | exact congrArg nI (by omega) | (congr 1; omega)
      · refine jt_go jm_m178 12 5 (f' := (29, [(0, .inr (.inr (4, 0, 0))), (1, .inl (nI p)), (2, .inl (nI w))], [.inl ((nI 4) + (nI p)), .inr (.inr (5, 0, 0))], h)) (P := True) rfl trivial ?_
        refine jt_ti (show ((nI 4) + (nI p)) = nI (4 + p) from nI_add _ _) ?_
        refine jt_go jm_m178 17 1 (f' := (30, [(0, .inr (.inr (4, 0, 0))), (1, .inl (nI p)), (2, .inl (nI w))], [.inl (h (5, 0, 0) (nI (4 + p)).toNatClampNeg)], h)) (P := vp_in (nI (4 + p)) 78 ∧ True) rfl ⟨(vp_in_nI (by omega) (by decide)), trivial⟩ ?_
        refine jt_ti (show (h (5, 0, 0) (nI (4 + p)).toNatClampNeg) = nI (g (4 + p)) from jg_get R (k := 4 + p) (nI_clamp (by omega)) (by omega)) ?_
        have bq2 := jw_fish W (p := p) (by omega)
        refine jt_go jm_m178 18 1 (f' := (58, [(0, .inr (.inr (4, 0, 0))), (1, .inl (nI p)), (2, .inl (nI w))], [.inl (nI (g (4 + p)))], h)) (P := True) rfl trivial ?_
        refine jt_iret jm_m178 33 rfl ?_
        refine ⟨jt_li ?_, jg_fr_rf⟩
        unfold za_place
        rw [if_pos ⟨c4, c13⟩, nI_clamp (n := p) (by omega), nI_clamp (n := w) (by omega)]
        unfold zb_place
        (repeat' split) <;> first | done | rfl | (exfalso; omega) | exact (jm_b_pos (by assumption)).symm | exact (jm_b_neg (by assumption)).symm | exact congrArg (fun z => nI (g z)) (by omega) | exact congrArg nI (by omega) | (congr 1; omega)
    · refine jt_go jm_m178 8 1 (f' := (17, [(0, .inr (.inr (4, 0, 0))), (1, .inl (nI p)), (2, .inl (y))], [.inl ((-1))], h)) (P := True) rfl trivial ?_
      refine jt_iret jm_m178 9 rfl ?_
      exact ⟨jt_li (if_neg (fun z => c13 z.2)).symm, jg_fr_rf⟩
def zb_cat (g : Nat → Nat) (c w : Nat) : Int32 := if w = 5 then nI (sp_goal g c) else if w = 6 then nI (sp_pace (g (36 + 5 * c)) (g (37 + 5 * c)) (g 2)) else if w = 7 then jm_b (sp_read g c) else nI (g (36 + 5 * c + w))
def za_cat (g : Nat → Nat) (x y : Int32) : Int32 := if (nI 0 ≤ x ∧ x < nI (g 0)) ∧ (nI 0 ≤ y ∧ y ≤ nI 7) then zb_cat g x.toNatClampNeg y.toNatClampNeg else (-1)
set_option maxHeartbeats 4000000 in
set_option maxRecDepth 20000 in
theorem ca_cat {h : jm_M} {g : Nat → Nat} (R : jf_rel h 0 g) (W : jw g) {x y : Int32} : jt_T 75 (0, [(0, .inr (.inr (0, 0, 0))), (1, .inl (x)), (2, .inl (y))], [], h) (fun u h' => u = some (.inl (za_cat g x y)) ∧ jf_fr 1 h h') := by
  have bn := jw_n W
  have bm := jw_m W
  have bt := jw_t W
  refine jt_go jm_m75 0 3 (f' := (5, [(0, .inr (.inr (0, 0, 0))), (1, .inl (x)), (2, .inl (y))], [.inl (x), .inr (.inr (2, 0, 0))], h)) (P := True) rfl trivial ?_
  refine jt_callp (w := .inl (jm_b (nI 0 ≤ x ∧ x < nI (g 0)))) jm_m75 3 (mi' := 7) (as := [.inr (.inr (2, 0, 0)), .inl (x)]) (rest := []) (nxt := 8) rfl rfl jm_m7 rfl rfl (ta_hasCat R W) ?_
  refine jt_ifbne jm_m75 4 (tgt := 13) (nxt := 11) rfl rfl rfl (fun c8 => ?_) (fun c8 => ?_)
  · obtain ⟨c, hbc, rfl⟩ := jx_cat (by omega) c8
    refine jt_go jm_m75 7 1 (f' := (14, [(0, .inr (.inr (0, 0, 0))), (1, .inl (nI c)), (2, .inl (y))], [.inl (y)], h)) (P := True) rfl trivial ?_
    refine jt_ts jm_m75 8 rfl ⟨fun d0 => ?_, fun d0 => ⟨fun d1 => ?_, fun d1 => ⟨fun d2 => ?_, fun d2 => ⟨fun d3 => ?_, fun d3 => ⟨fun d4 => ?_, fun d4 => ⟨fun d5 => ?_, fun d5 => ⟨fun d6 => ?_, fun d6 => ⟨fun d7 => ?_, fun d7 => ?_⟩⟩⟩⟩⟩⟩⟩⟩
    · have d0 : y = nI 0 := d0
      show jt_T 75 (60, [(0, .inr (.inr (0, 0, 0))), (1, .inl (nI c)), (2, .inl (y))], [], h) _
      refine jt_go jm_m75 9 5 (f' := (69, [(0, .inr (.inr (0, 0, 0))), (1, .inl (nI c)), (2, .inl (y))], [.inl (h (2, 0, 1) (nI c).toNatClampNeg)], h)) (P := vp_in (nI c) 6 ∧ True) rfl ⟨(vp_in_nI (by omega) (by decide)), trivial⟩ ?_
      refine jt_ti (show (h (2, 0, 1) (nI c).toNatClampNeg) = nI (g (36 + 5 * c)) from jf_kind R (c := c) (nI_clamp (by omega)) (by omega)) ?_
      have bq1 := jw_kind W (c := c) (by omega)
      refine jt_iret jm_m75 14 rfl ?_
      subst d0
      refine ⟨jt_li ?_, jf_fr_rf⟩
      unfold za_cat
      rw [if_pos ⟨c8, ⟨nI_pos' (by decide), (nI_leI (by decide) (by decide)).mpr (by decide)⟩⟩, nI_clamp (n := c) (by omega), nI_clamp (n := 0) (by omega)]
      unfold zb_cat
      (repeat' split) <;> first | done | rfl | (exfalso; omega) | exact (jm_b_pos (by assumption)).symm | exact (jm_b_neg (by assumption)).symm | exact congrArg (fun z => nI (g z)) (by omega) | exact congrArg nI (by omega) | (congr 1; omega)
    · have d1 : y = nI 1 := d1
      show jt_T 75 (70, [(0, .inr (.inr (0, 0, 0))), (1, .inl (nI c)), (2, .inl (y))], [], h) _
      refine jt_go jm_m75 15 5 (f' := (79, [(0, .inr (.inr (0, 0, 0))), (1, .inl (nI c)), (2, .inl (y))], [.inl (h (2, 0, 2) (nI c).toNatClampNeg)], h)) (P := vp_in (nI c) 6 ∧ True) rfl ⟨(vp_in_nI (by omega) (by decide)), trivial⟩ ?_
      refine jt_ti (show (h (2, 0, 2) (nI c).toNatClampNeg) = nI (g (37 + 5 * c)) from jf_fig R (c := c) (nI_clamp (by omega)) (by omega)) ?_
      have bq2 := jw_fig W (c := c) (by omega)
      refine jt_iret jm_m75 20 rfl ?_
      subst d1
      refine ⟨jt_li ?_, jf_fr_rf⟩
      unfold za_cat
      rw [if_pos ⟨c8, ⟨nI_pos' (by decide), (nI_leI (by decide) (by decide)).mpr (by decide)⟩⟩, nI_clamp (n := c) (by omega), nI_clamp (n := 1) (by omega)]
      unfold zb_cat
      (repeat' split) <;> first | done | rfl | (exfalso; omega) | exact (jm_b_pos (by assumption)).symm | exact (jm_b_neg (by assumption)).symm | exact congrArg (fun z => nI (g z)) (by omega) | exact congrArg nI (by omega) | (congr 1; omega)
    · have d2 : y = nI 2 := d2
      show jt_T 75 (80, [(0, .inr (.inr (0, 0, 0))), (1, .inl (nI c)), (2, .inl (y))], [], h) _
      refine jt_go jm_m75 21 5 (f' := (89, [(0, .inr (.inr (0, 0, 0))), (1, .inl (nI c)), (2, .inl (y))], [.inl (h (2, 0, 3) (nI c).toNatClampNeg)], h)) (P := vp_in (nI c) 6 ∧ True) rfl ⟨(vp_in_nI (by omega) (by decide)), trivial⟩ ?_
      refine jt_ti (show (h (2, 0, 3) (nI c).toNatClampNeg) = nI (g (38 + 5 * c)) from jf_at R (c := c) (nI_clamp (by omega)) (by omega)) ?_
      have bq3 := jw_at W (c := c) (by omega)
      refine jt_iret jm_m75 26 rfl ?_
      subst d2
      refine ⟨jt_li ?_, jf_fr_rf⟩
      unfold za_cat
      rw [if_pos ⟨c8, ⟨nI_pos' (by decide), (nI_leI (by decide) (by decide)).mpr (by decide)⟩⟩, nI_clamp (n := c) (by omega), nI_clamp (n := 2) (by omega)]
      unfold zb_cat
      (repeat' split) <;> first | done | rfl | (exfalso; omega) | exact (jm_b_pos (by assumption)).symm | exact (jm_b_neg (by assumption)).symm | exact congrArg (fun z => nI (g z)) (by omega) | exact congrArg nI (by omega) | (congr 1; omega)
    · have d3 : y = nI 3 := d3
      show jt_T 75 (90, [(0, .inr (.inr (0, 0, 0))), (1, .inl (nI c)), (2, .inl (y))], [], h) _
      refine jt_go jm_m75 27 5 (f' := (99, [(0, .inr (.inr (0, 0, 0))), (1, .inl (nI c)), (2, .inl (y))], [.inl (h (2, 0, 4) (nI c).toNatClampNeg)], h)) (P := vp_in (nI c) 6 ∧ True) rfl ⟨(vp_in_nI (by omega) (by decide)), trivial⟩ ?_
      refine jt_ti (show (h (2, 0, 4) (nI c).toNatClampNeg) = nI (g (39 + 5 * c)) from jf_hair R (c := c) (nI_clamp (by omega)) (by omega)) ?_
      have bq4 := jw_hair W (c := c) (by omega)
      refine jt_iret jm_m75 32 rfl ?_
      subst d3
      refine ⟨jt_li ?_, jf_fr_rf⟩
      unfold za_cat
      rw [if_pos ⟨c8, ⟨nI_pos' (by decide), (nI_leI (by decide) (by decide)).mpr (by decide)⟩⟩, nI_clamp (n := c) (by omega), nI_clamp (n := 3) (by omega)]
      unfold zb_cat
      (repeat' split) <;> first | done | rfl | (exfalso; omega) | exact (jm_b_pos (by assumption)).symm | exact (jm_b_neg (by assumption)).symm | exact congrArg (fun z => nI (g z)) (by omega) | exact congrArg nI (by omega) | (congr 1; omega)
    · have d4 : y = nI 4 := d4
      show jt_T 75 (100, [(0, .inr (.inr (0, 0, 0))), (1, .inl (nI c)), (2, .inl (y))], [], h) _
      refine jt_go jm_m75 33 5 (f' := (109, [(0, .inr (.inr (0, 0, 0))), (1, .inl (nI c)), (2, .inl (y))], [.inl (h (2, 0, 5) (nI c).toNatClampNeg)], h)) (P := vp_in (nI c) 6 ∧ True) rfl ⟨(vp_in_nI (by omega) (by decide)), trivial⟩ ?_
      refine jt_ti (show (h (2, 0, 5) (nI c).toNatClampNeg) = nI (g (40 + 5 * c)) from jf_name R (c := c) (nI_clamp (by omega)) (by omega)) ?_
      have bq5 := jw_name W (c := c) (by omega)
      refine jt_iret jm_m75 38 rfl ?_
      subst d4
      refine ⟨jt_li ?_, jf_fr_rf⟩
      unfold za_cat
      rw [if_pos ⟨c8, ⟨nI_pos' (by decide), (nI_leI (by decide) (by decide)).mpr (by decide)⟩⟩, nI_clamp (n := c) (by omega), nI_clamp (n := 4) (by omega)]
      unfold zb_cat
      (repeat' split) <;> first | done | rfl | (exfalso; omega) | exact (jm_b_pos (by assumption)).symm | exact (jm_b_neg (by assumption)).symm | exact congrArg (fun z => nI (g z)) (by omega) | exact congrArg nI (by omega) | (congr 1; omega)
    · have d5 : y = nI 5 := d5
      show jt_T 75 (110, [(0, .inr (.inr (0, 0, 0))), (1, .inl (nI c)), (2, .inl (y))], [], h) _
      refine jt_go jm_m75 39 3 (f' := (115, [(0, .inr (.inr (0, 0, 0))), (1, .inl (nI c)), (2, .inl (y))], [.inl (nI c), .inr (.inr (2, 0, 0))], h)) (P := True) rfl trivial ?_
      refine jt_callp (w := .inl (nI (sp_goal g c))) jm_m75 42 (mi' := 24) (as := [.inr (.inr (2, 0, 0)), .inl (nI c)]) (rest := []) (nxt := 118) rfl rfl jm_m24 rfl rfl (ta_goalOf R W (by omega)) ?_
      refine jt_iret jm_m75 43 rfl ?_
      subst d5
      refine ⟨jt_li ?_, jf_fr_rf⟩
      unfold za_cat
      rw [if_pos ⟨c8, ⟨nI_pos' (by decide), (nI_leI (by decide) (by decide)).mpr (by decide)⟩⟩, nI_clamp (n := c) (by omega), nI_clamp (n := 5) (by omega)]
      unfold zb_cat
      (repeat' split) <;> first | done | rfl | (exfalso; omega) | exact (jm_b_pos (by assumption)).symm | exact (jm_b_neg (by assumption)).symm | exact congrArg (fun z => nI (g z)) (by omega) | exact congrArg nI (by omega) | (congr 1; omega)
    · have d6 : y = nI 6 := d6
      show jt_T 75 (119, [(0, .inr (.inr (0, 0, 0))), (1, .inl (nI c)), (2, .inl (y))], [], h) _
      refine jt_go jm_m75 44 6 (f' := (131, [(0, .inr (.inr (0, 0, 0))), (1, .inl (nI c)), (2, .inl (y))], [.inl (h (2, 0, 0) 11), .inl (nI c), .inr (.inr (2, 0, 0))], h)) (P := True) rfl trivial ?_
      refine jt_ti (show (h (2, 0, 0) 11) = nI (g 2) from jf_hour R) ?_
      have bq6 := jw_t W
      refine jt_callp (w := .inl (nI (sp_pace (g (36 + 5 * c)) (g (37 + 5 * c)) (g 2)))) jm_m75 50 (mi' := 25) (as := [.inr (.inr (2, 0, 0)), .inl (nI c), .inl (nI (g 2))]) (rest := []) (nxt := 134) rfl rfl jm_m25 rfl rfl (ta_paceOf R W (by omega) (by omega)) ?_
      refine jt_iret jm_m75 51 rfl ?_
      subst d6
      refine ⟨jt_li ?_, jf_fr_rf⟩
      unfold za_cat
      rw [if_pos ⟨c8, ⟨nI_pos' (by decide), (nI_leI (by decide) (by decide)).mpr (by decide)⟩⟩, nI_clamp (n := c) (by omega), nI_clamp (n := 6) (by omega)]
      unfold zb_cat
      (repeat' split) <;> first | done | rfl | (exfalso; omega) | exact (jm_b_pos (by assumption)).symm | exact (jm_b_neg (by assumption)).symm | exact congrArg (fun z => nI (g z)) (by omega) | exact congrArg nI (by omega) | (congr 1; omega)
    · have d7 : y = nI 7 := d7
      show jt_T 75 (135, [(0, .inr (.inr (0, 0, 0))), (1, .inl (nI c)), (2, .inl (y))], [], h) _
      refine jt_go jm_m75 52 3 (f' := (140, [(0, .inr (.inr (0, 0, 0))), (1, .inl (nI c)), (2, .inl (y))], [.inl (nI c), .inr (.inr (2, 0, 0))], h)) (P := True) rfl trivial ?_
      refine jt_callp (w := .inl (jm_b (sp_read g c))) jm_m75 55 (mi' := 26) (as := [.inr (.inr (2, 0, 0)), .inl (nI c)]) (rest := []) (nxt := 143) rfl rfl jm_m26 rfl rfl (ta_read R W (by omega)) ?_
      refine jt_ifbeq jm_m75 56 (tgt := 150) (nxt := 146) rfl rfl rfl (fun c143 => ?_) (fun c143 => ?_)
      · refine jt_go jm_m75 59 1 (f' := (151, [(0, .inr (.inr (0, 0, 0))), (1, .inl (nI c)), (2, .inl (y))], [.inl (nI 0)], h)) (P := True) rfl trivial ?_
        refine jt_iret jm_m75 60 rfl ?_
        subst d7
        refine ⟨jt_li ?_, jf_fr_rf⟩
        unfold za_cat
        rw [if_pos ⟨c8, ⟨nI_pos' (by decide), (nI_leI (by decide) (by decide)).mpr (by decide)⟩⟩, nI_clamp (n := c) (by omega), nI_clamp (n := 7) (by omega)]
        unfold zb_cat
        (repeat' split) <;> first | done | rfl | (exfalso; omega) | exact (jm_b_pos (by assumption)).symm | exact (jm_b_neg (by assumption)).symm | exact congrArg (fun z => nI (g z)) (by omega) | exact congrArg nI (by omega) | (congr 1; omega)
      · refine jt_go jm_m75 57 2 (f' := (151, [(0, .inr (.inr (0, 0, 0))), (1, .inl (nI c)), (2, .inl (y))], [.inl (nI 1)], h)) (P := True) rfl trivial ?_
        refine jt_iret jm_m75 60 rfl ?_
        subst d7
        refine ⟨jt_li ?_, jf_fr_rf⟩
        unfold za_cat
        rw [if_pos ⟨c8, ⟨nI_pos' (by decide), (nI_leI (by decide) (by decide)).mpr (by decide)⟩⟩, nI_clamp (n := c) (by omega), nI_clamp (n := 7) (by omega)]
        unfold zb_cat
        (repeat' split) <;> first | done | rfl | (exfalso; omega) | exact (jm_b_pos (by assumption)).symm | exact (jm_b_neg (by assumption)).symm | exact congrArg (fun z => nI (g z)) (by omega) | exact congrArg nI (by omega) | (congr 1; omega)
    · show jt_T 75 (152, [(0, .inr (.inr (0, 0, 0))), (1, .inl (nI c)), (2, .inl (y))], [], h) _
      refine jt_go jm_m75 61 1 (f' := (153, [(0, .inr (.inr (0, 0, 0))), (1, .inl (nI c)), (2, .inl (y))], [.inl ((-1))], h)) (P := True) rfl trivial ?_
      refine jt_iret jm_m75 62 rfl ?_
      exact ⟨jt_li (if_neg (fun z => jx_nwin (by decide) (fun j hj => by
        rcases (show j = 0 ∨ j = 1 ∨ j = 2 ∨ j = 3 ∨ j = 4 ∨ j = 5 ∨ j = 6 ∨ j = 7 by omega) with rfl | rfl | rfl | rfl | rfl | rfl | rfl | rfl
        · exact d0
        · exact d1
        · exact d2
        · exact d3
        · exact d4
        · exact d5
        · exact d6
        · exact d7) z.2)).symm, jf_fr_rf⟩
  · refine jt_go jm_m75 5 1 (f' := (12, [(0, .inr (.inr (0, 0, 0))), (1, .inl (x)), (2, .inl (y))], [.inl ((-1))], h)) (P := True) rfl trivial ?_
    refine jt_iret jm_m75 6 rfl ?_
    exact ⟨jt_li (if_neg (fun z => c8 z.1)).symm, jf_fr_rf⟩
set_option maxHeartbeats 4000000 in
set_option maxRecDepth 20000 in
theorem cb_cat {h : jm_M} {g : Nat → Nat} (R : jg_rel h 0 g) (W : jw g) {x y : Int32} : jt_T 175 (0, [(0, .inr (.inr (4, 0, 0))), (1, .inl (x)), (2, .inl (y))], [], h) (fun u h' => u = some (.inl (za_cat g x y)) ∧ jg_fr 1 h h') := by
  have bn := jw_n W
  have bm := jw_m W
  have bt := jw_t W
  refine jt_go jm_m175 0 2 (f' := (2, [(0, .inr (.inr (4, 0, 0))), (1, .inl (x)), (2, .inl (y))], [.inl (x), .inr (.inr (4, 0, 0))], h)) (P := True) rfl trivial ?_
  refine jt_callp (w := .inl (jm_b (nI 0 ≤ x ∧ x < nI (g 0)))) jm_m175 2 (mi' := 149) (as := [.inr (.inr (4, 0, 0)), .inl (x)]) (rest := []) (nxt := 5) rfl rfl jm_m149 rfl rfl (tb_isCat R W) ?_
  refine jt_ifbeq jm_m175 3 (tgt := 18) (nxt := 8) rfl rfl rfl (fun c5 => ?_) (fun c5 => ?_)
  · refine jt_go jm_m175 9 1 (f' := (19, [(0, .inr (.inr (4, 0, 0))), (1, .inl (x)), (2, .inl (y))], [.inl ((-1))], h)) (P := True) rfl trivial ?_
    refine jt_iret jm_m175 10 rfl ?_
    exact ⟨jt_li (if_neg (fun z => c5 z.1)).symm, jg_fr_rf⟩
  · obtain ⟨c, hbc, rfl⟩ := jx_cat (by omega) c5
    refine jt_go jm_m175 4 3 (f' := (12, [(0, .inr (.inr (4, 0, 0))), (1, .inl (nI c)), (2, .inl (y))], [.inl (nI 7), .inl (nI 0), .inl (y)], h)) (P := True) rfl trivial ?_
    refine jt_callp (w := .inl (jm_b (nI 0 ≤ y ∧ y ≤ nI 7))) jm_m175 7 (mi' := 143) (as := [.inl (y), .inl (nI 0), .inl (nI 7)]) (rest := []) (nxt := 15) rfl rfl jm_m143 rfl rfl (tb_isIn) ?_
    refine jt_ifbne jm_m175 8 (tgt := 20) (nxt := 18) rfl rfl rfl (fun c15 => ?_) (fun c15 => ?_)
    · obtain ⟨w, hbw, rfl⟩ := jx_win (by decide) c15
      refine jt_go jm_m175 11 1 (f' := (21, [(0, .inr (.inr (4, 0, 0))), (1, .inl (nI c)), (2, .inl (nI w))], [.inl (nI w)], h)) (P := True) rfl trivial ?_
      refine jt_ts jm_m175 12 rfl ⟨fun d0 => ?_, fun d0 => ⟨fun d1 => ?_, fun d1 => ⟨fun d2 => ?_, fun d2 => ?_⟩⟩⟩
      · have d0 : w = 5 := nI_inj (by omega) (by decide) d0
        show jt_T 175 (48, [(0, .inr (.inr (4, 0, 0))), (1, .inl (nI c)), (2, .inl (nI w))], [], h) _
        refine jt_go jm_m175 13 3 (f' := (53, [(0, .inr (.inr (4, 0, 0))), (1, .inl (nI c)), (2, .inl (nI w))], [.inl (nI c), .inr (.inr (5, 0, 0))], h)) (P := True) rfl trivial ?_
        refine jt_callp (w := .inl (nI (sp_goal g c))) jm_m175 16 (mi' := 157) (as := [.inr (.inr (5, 0, 0)), .inl (nI c)]) (rest := []) (nxt := 56) rfl rfl jm_m157 rfl rfl (tb_goal R W (by omega)) ?_
        refine jt_iret jm_m175 17 rfl ?_
        refine ⟨jt_li ?_, jg_fr_rf⟩
        unfold za_cat
        rw [if_pos ⟨c5, c15⟩, nI_clamp (n := c) (by omega), nI_clamp (n := w) (by omega)]
        unfold zb_cat
        (repeat' split) <;> first | done | rfl | (exfalso; omega) | exact (jm_b_pos (by assumption)).symm | exact (jm_b_neg (by assumption)).symm | exact congrArg (fun z => nI (g z)) (by omega) | exact congrArg nI (by omega) | (congr 1; omega)
      · have d1 : w = 6 := nI_inj (by omega) (by decide) d1
        show jt_T 175 (57, [(0, .inr (.inr (4, 0, 0))), (1, .inl (nI c)), (2, .inl (nI w))], [], h) _
        refine jt_go jm_m175 18 7 (f' := (68, [(0, .inr (.inr (4, 0, 0))), (1, .inl (nI c)), (2, .inl (nI w))], [.inl (h (5, 0, 0) (nI 2).toNatClampNeg), .inl (nI c), .inr (.inr (5, 0, 0))], h)) (P := vp_in (nI 2) 78 ∧ True) rfl ⟨(vp_in_nI (by omega) (by decide)), trivial⟩ ?_
        refine jt_ti (show (h (5, 0, 0) (nI 2).toNatClampNeg) = nI (g 2) from jg_get R (k := 2) (nI_clamp (by omega)) (by omega)) ?_
        have bq1 := jw_t W
        refine jt_callp (w := .inl (nI (sp_pace (g (36 + 5 * c)) (g (37 + 5 * c)) (g 2)))) jm_m175 25 (mi' := 158) (as := [.inr (.inr (5, 0, 0)), .inl (nI c), .inl (nI (g 2))]) (rest := []) (nxt := 71) rfl rfl jm_m158 rfl rfl (tb_pace R W (by omega) (by omega)) ?_
        refine jt_iret jm_m175 26 rfl ?_
        refine ⟨jt_li ?_, jg_fr_rf⟩
        unfold za_cat
        rw [if_pos ⟨c5, c15⟩, nI_clamp (n := c) (by omega), nI_clamp (n := w) (by omega)]
        unfold zb_cat
        (repeat' split) <;> first | done | rfl | (exfalso; omega) | exact (jm_b_pos (by assumption)).symm | exact (jm_b_neg (by assumption)).symm | exact congrArg (fun z => nI (g z)) (by omega) | exact congrArg nI (by omega) | (congr 1; omega)
      · have d2 : w = 7 := nI_inj (by omega) (by decide) d2
        show jt_T 175 (72, [(0, .inr (.inr (4, 0, 0))), (1, .inl (nI c)), (2, .inl (nI w))], [], h) _
        refine jt_go jm_m175 27 3 (f' := (77, [(0, .inr (.inr (4, 0, 0))), (1, .inl (nI c)), (2, .inl (nI w))], [.inl (nI c), .inr (.inr (5, 0, 0))], h)) (P := True) rfl trivial ?_
        refine jt_callp (w := .inl (jm_b (sp_read g c))) jm_m175 30 (mi' := 160) (as := [.inr (.inr (5, 0, 0)), .inl (nI c)]) (rest := []) (nxt := 80) rfl rfl jm_m160 rfl rfl (tb_read R W (by omega)) ?_
        refine jt_ifbeq jm_m175 31 (tgt := 87) (nxt := 83) rfl rfl rfl (fun c80 => ?_) (fun c80 => ?_)
        · refine jt_go jm_m175 34 1 (f' := (88, [(0, .inr (.inr (4, 0, 0))), (1, .inl (nI c)), (2, .inl (nI w))], [.inl (nI 0)], h)) (P := True) rfl trivial ?_
          refine jt_iret jm_m175 35 rfl ?_
          refine ⟨jt_li ?_, jg_fr_rf⟩
          unfold za_cat
          rw [if_pos ⟨c5, c15⟩, nI_clamp (n := c) (by omega), nI_clamp (n := w) (by omega)]
          unfold zb_cat
          (repeat' split) <;> first | done | rfl | (exfalso; omega) | exact (jm_b_pos (by assumption)).symm | exact (jm_b_neg (by assumption)).symm | exact congrArg (fun z => nI (g z)) (by omega) | exact congrArg nI (by omega) | (congr 1; omega)
        · refine jt_go jm_m175 32 2 (f' := (88, [(0, .inr (.inr (4, 0, 0))), (1, .inl (nI c)), (2, .inl (nI w))], [.inl (nI 1)], h)) (P := True) rfl trivial ?_
          refine jt_iret jm_m175 35 rfl ?_
          refine ⟨jt_li ?_, jg_fr_rf⟩
          unfold za_cat
          rw [if_pos ⟨c5, c15⟩, nI_clamp (n := c) (by omega), nI_clamp (n := w) (by omega)]
          unfold zb_cat
          (repeat' split) <;> first | done | rfl | (exfalso; omega) | exact (jm_b_pos (by assumption)).symm | exact (jm_b_neg (by assumption)).symm | exact congrArg (fun z => nI (g z)) (by omega) | exact congrArg nI (by omega) | (congr 1; omega)
      · have d0 : ¬ w = 5 := fun z => d0 (by rw [z]; rfl)
        have d1 : ¬ w = 6 := fun z => d1 (by rw [z]; rfl)
        have d2 : ¬ w = 7 := fun z => d2 (by rw [z]; rfl)
        show jt_T 175 (89, [(0, .inr (.inr (4, 0, 0))), (1, .inl (nI c)), (2, .inl (nI w))], [], h) _
        refine jt_go jm_m175 36 4 (f' := (95, [(0, .inr (.inr (4, 0, 0))), (1, .inl (nI c)), (2, .inl (nI w))], [.inl (nI w), .inl (nI c), .inr (.inr (5, 0, 0))], h)) (P := True) rfl trivial ?_
        refine jt_callp (w := .inl (nI (36 + 5 * c + w))) jm_m175 40 (mi' := 147) (as := [.inl (nI c), .inl (nI w)]) (rest := [.inr (.inr (5, 0, 0))]) (nxt := 98) rfl rfl jm_m147 rfl rfl (tb_ofC (k := 36 + 5 * c + w) (by omega)) ?_
        refine jt_go jm_m175 41 1 (f' := (99, [(0, .inr (.inr (4, 0, 0))), (1, .inl (nI c)), (2, .inl (nI w))], [.inl (h (5, 0, 0) (nI (36 + 5 * c + w)).toNatClampNeg)], h)) (P := vp_in (nI (36 + 5 * c + w)) 78 ∧ True) rfl ⟨(vp_in_nI (by omega) (by decide)), trivial⟩ ?_
        refine jt_ti (show (h (5, 0, 0) (nI (36 + 5 * c + w)).toNatClampNeg) = nI (g (36 + 5 * c + w)) from jg_get R (k := 36 + 5 * c + w) (nI_clamp (by omega)) (by omega)) ?_
        refine jt_iret jm_m175 42 rfl ?_
        refine ⟨jt_li ?_, jg_fr_rf⟩
        unfold za_cat
        rw [if_pos ⟨c5, c15⟩, nI_clamp (n := c) (by omega), nI_clamp (n := w) (by omega)]
        unfold zb_cat
        (repeat' split) <;> first | done | rfl | (exfalso; omega) | exact (jm_b_pos (by assumption)).symm | exact (jm_b_neg (by assumption)).symm | exact congrArg (fun z => nI (g z)) (by omega) | exact congrArg nI (by omega) | (congr 1; omega)
    · refine jt_go jm_m175 9 1 (f' := (19, [(0, .inr (.inr (4, 0, 0))), (1, .inl (nI c)), (2, .inl (y))], [.inl ((-1))], h)) (P := True) rfl trivial ?_
      refine jt_iret jm_m175 10 rfl ?_
      exact ⟨jt_li (if_neg (fun z => c15 z.2)).symm, jg_fr_rf⟩
def zb_catThen (g : Nat → Nat) (c n w : Nat) : Int32 := nI (sp_it g n (38 + 5 * c + w))
def za_catThen (g : Nat → Nat) (x y z : Int32) : Int32 := if (nI 0 ≤ x ∧ x < nI (g 0)) ∧ (nI 0 ≤ y ∧ y ≤ nI 99) ∧ (nI 0 ≤ z ∧ z ≤ nI 1) then zb_catThen g x.toNatClampNeg y.toNatClampNeg z.toNatClampNeg else (-1)
set_option maxHeartbeats 4000000 in
set_option maxRecDepth 20000 in
theorem ca_catThen {h : jm_M} {g : Nat → Nat} (R : jf_rel h 0 g) (W : jw g) {x y z : Int32} : jt_T 84 (0, [(0, .inr (.inr (0, 0, 0))), (1, .inl (x)), (2, .inl (y)), (3, .inl (z))], [], h) (fun u h' => u = some (.inl (za_catThen g x y z)) ∧ jf_fr 1 h h') := by
  have bn := jw_n W
  have bm := jw_m W
  have bt := jw_t W
  refine jt_go jm_m84 0 3 (f' := (5, [(0, .inr (.inr (0, 0, 0))), (1, .inl (x)), (2, .inl (y)), (3, .inl (z))], [.inl (x), .inr (.inr (2, 0, 0))], h)) (P := True) rfl trivial ?_
  refine jt_callp (w := .inl (jm_b (nI 0 ≤ x ∧ x < nI (g 0)))) jm_m84 3 (mi' := 7) (as := [.inr (.inr (2, 0, 0)), .inl (x)]) (rest := []) (nxt := 8) rfl rfl jm_m7 rfl rfl (ta_hasCat R W) ?_
  refine jt_ifbeq jm_m84 4 (tgt := 27) (nxt := 11) rfl rfl rfl (fun c8 => ?_) (fun c8 => ?_)
  · refine jt_go jm_m84 13 1 (f' := (28, [(0, .inr (.inr (0, 0, 0))), (1, .inl (x)), (2, .inl (y)), (3, .inl (z))], [.inl ((-1))], h)) (P := True) rfl trivial ?_
    refine jt_iret jm_m84 14 rfl ?_
    exact ⟨jt_li (if_neg (fun z => c8 z.1)).symm, jf_fr_rf⟩
  · obtain ⟨c, hbc, rfl⟩ := jx_cat (by omega) c8
    refine jt_go jm_m84 5 1 (f' := (12, [(0, .inr (.inr (0, 0, 0))), (1, .inl (nI c)), (2, .inl (y)), (3, .inl (z))], [.inl (y)], h)) (P := True) rfl trivial ?_
    refine jt_callp (w := .inl (jm_b (nI 0 ≤ y ∧ y ≤ nI 99))) jm_m84 6 (mi' := 141) (as := [.inl (y)]) (rest := []) (nxt := 15) rfl rfl jm_m141 rfl rfl (ta_ahead) ?_
    refine jt_ifbeq jm_m84 7 (tgt := 27) (nxt := 18) rfl rfl rfl (fun c15 => ?_) (fun c15 => ?_)
    · refine jt_go jm_m84 13 1 (f' := (28, [(0, .inr (.inr (0, 0, 0))), (1, .inl (nI c)), (2, .inl (y)), (3, .inl (z))], [.inl ((-1))], h)) (P := True) rfl trivial ?_
      refine jt_iret jm_m84 14 rfl ?_
      exact ⟨jt_li (if_neg (fun z => c15 z.2.1)).symm, jf_fr_rf⟩
    · obtain ⟨n, hbn, rfl⟩ := jx_win (by decide) c15
      refine jt_go jm_m84 8 3 (f' := (21, [(0, .inr (.inr (0, 0, 0))), (1, .inl (nI c)), (2, .inl (nI n)), (3, .inl (z))], [.inl (nI 1), .inl (nI 0), .inl (z)], h)) (P := True) rfl trivial ?_
      refine jt_callp (w := .inl (jm_b (nI 0 ≤ z ∧ z ≤ nI 1))) jm_m84 11 (mi' := 136) (as := [.inl (z), .inl (nI 0), .inl (nI 1)]) (rest := []) (nxt := 24) rfl rfl jm_m136 rfl rfl (ta_within) ?_
      refine jt_ifbne jm_m84 12 (tgt := 29) (nxt := 27) rfl rfl rfl (fun c24 => ?_) (fun c24 => ?_)
      · obtain ⟨w, hbw, rfl⟩ := jx_win (by decide) c24
        refine jt_go jm_m84 15 2 (f' := (31, [(0, .inr (.inr (0, 0, 0))), (1, .inl (nI c)), (2, .inl (nI n)), (3, .inl (nI w))], [.inl (nI n), .inr (.inr (0, 0, 0))], h)) (P := True) rfl trivial ?_
        refine jt_call jm_m84 17 (mi' := 132) (as := [.inr (.inr (0, 0, 0)), .inl (nI n)]) (rest := []) (nxt := 34) rfl rfl jm_m132 rfl rfl (ta_look R W (by omega)) ?_
        rintro u h1 ⟨rfl, Rh1, Fh1⟩
        show jt_T 84 (34, [(0, .inr (.inr (0, 0, 0))), (1, .inl (nI c)), (2, .inl (nI n)), (3, .inl (nI w))], [], h1) _
        have Wh1 : jw (sp_it g n) := (jw_it W _).1
        have Zh1 := jf_mov0 R Fh1
        refine jt_go jm_m84 18 1 (f' := (35, [(0, .inr (.inr (0, 0, 0))), (1, .inl (nI c)), (2, .inl (nI n)), (3, .inl (nI w))], [.inl (nI w)], h1)) (P := True) rfl trivial ?_
        refine jt_nifne jm_m84 19 (by omega) (tgt := 50) (nxt := 38) rfl rfl rfl (fun c35 => ?_) (fun c35 => ?_)
        · refine jt_go jm_m84 26 5 (f' := (59, [(0, .inr (.inr (0, 0, 0))), (1, .inl (nI c)), (2, .inl (nI n)), (3, .inl (nI w))], [.inl (h1 (2, 1, 4) (nI c).toNatClampNeg)], h1)) (P := vp_in (nI c) 6 ∧ True) rfl ⟨(vp_in_nI (by omega) (by decide)), trivial⟩ ?_
          refine jt_ti (show (h1 (2, 1, 4) (nI c).toNatClampNeg) = nI ((sp_it g n) (39 + 5 * c)) from jf_hair Rh1 (c := c) (nI_clamp (by omega)) (by omega)) ?_
          have bq1 := jw_hair Wh1 (c := c) (by omega)
          refine jt_iret jm_m84 31 rfl ?_
          refine ⟨jt_li ?_, Fh1⟩
          unfold za_catThen
          rw [if_pos ⟨c8, c15, c24⟩, nI_clamp (n := c) (by omega), nI_clamp (n := n) (by omega), nI_clamp (n := w) (by omega)]
          unfold zb_catThen
          exact congrArg (fun z => nI (sp_it g n z)) (by omega)
        · refine jt_go jm_m84 20 5 (f' := (47, [(0, .inr (.inr (0, 0, 0))), (1, .inl (nI c)), (2, .inl (nI n)), (3, .inl (nI w))], [.inl (h1 (2, 1, 3) (nI c).toNatClampNeg)], h1)) (P := vp_in (nI c) 6 ∧ True) rfl ⟨(vp_in_nI (by omega) (by decide)), trivial⟩ ?_
          refine jt_ti (show (h1 (2, 1, 3) (nI c).toNatClampNeg) = nI ((sp_it g n) (38 + 5 * c)) from jf_at Rh1 (c := c) (nI_clamp (by omega)) (by omega)) ?_
          have bq2 := jw_at Wh1 (c := c) (by omega)
          refine jt_go jm_m84 25 1 (f' := (59, [(0, .inr (.inr (0, 0, 0))), (1, .inl (nI c)), (2, .inl (nI n)), (3, .inl (nI w))], [.inl (nI ((sp_it g n) (38 + 5 * c)))], h1)) (P := True) rfl trivial ?_
          refine jt_iret jm_m84 31 rfl ?_
          refine ⟨jt_li ?_, Fh1⟩
          unfold za_catThen
          rw [if_pos ⟨c8, c15, c24⟩, nI_clamp (n := c) (by omega), nI_clamp (n := n) (by omega), nI_clamp (n := w) (by omega)]
          unfold zb_catThen
          exact congrArg (fun z => nI (sp_it g n z)) (by omega)
      · refine jt_go jm_m84 13 1 (f' := (28, [(0, .inr (.inr (0, 0, 0))), (1, .inl (nI c)), (2, .inl (nI n)), (3, .inl (z))], [.inl ((-1))], h)) (P := True) rfl trivial ?_
        refine jt_iret jm_m84 14 rfl ?_
        exact ⟨jt_li (if_neg (fun z => c24 z.2.2)).symm, jf_fr_rf⟩
set_option maxHeartbeats 4000000 in
set_option maxRecDepth 20000 in
theorem cb_catThen {h : jm_M} {g : Nat → Nat} (R : jg_rel h 0 g) (W : jw g) {x y z : Int32} : jt_T 186 (0, [(0, .inr (.inr (4, 0, 0))), (1, .inl (x)), (2, .inl (y)), (3, .inl (z))], [], h) (fun u h' => u = some (.inl (za_catThen g x y z)) ∧ jg_fr 1 h h') := by
  have bn := jw_n W
  have bm := jw_m W
  have bt := jw_t W
  refine jt_go jm_m186 0 2 (f' := (2, [(0, .inr (.inr (4, 0, 0))), (1, .inl (x)), (2, .inl (y)), (3, .inl (z))], [.inl (x), .inr (.inr (4, 0, 0))], h)) (P := True) rfl trivial ?_
  refine jt_callp (w := .inl (jm_b (nI 0 ≤ x ∧ x < nI (g 0)))) jm_m186 2 (mi' := 149) (as := [.inr (.inr (4, 0, 0)), .inl (x)]) (rest := []) (nxt := 5) rfl rfl jm_m149 rfl rfl (tb_isCat R W) ?_
  refine jt_ifbeq jm_m186 3 (tgt := 27) (nxt := 8) rfl rfl rfl (fun c5 => ?_) (fun c5 => ?_)
  · refine jt_go jm_m186 14 1 (f' := (28, [(0, .inr (.inr (4, 0, 0))), (1, .inl (x)), (2, .inl (y)), (3, .inl (z))], [.inl ((-1))], h)) (P := True) rfl trivial ?_
    refine jt_iret jm_m186 15 rfl ?_
    exact ⟨jt_li (if_neg (fun z => c5 z.1)).symm, jg_fr_rf⟩
  · obtain ⟨c, hbc, rfl⟩ := jx_cat (by omega) c5
    refine jt_go jm_m186 4 3 (f' := (12, [(0, .inr (.inr (4, 0, 0))), (1, .inl (nI c)), (2, .inl (y)), (3, .inl (z))], [.inl (nI 99), .inl (nI 0), .inl (y)], h)) (P := True) rfl trivial ?_
    refine jt_callp (w := .inl (jm_b (nI 0 ≤ y ∧ y ≤ nI 99))) jm_m186 7 (mi' := 143) (as := [.inl (y), .inl (nI 0), .inl (nI 99)]) (rest := []) (nxt := 15) rfl rfl jm_m143 rfl rfl (tb_isIn) ?_
    refine jt_ifbeq jm_m186 8 (tgt := 27) (nxt := 18) rfl rfl rfl (fun c15 => ?_) (fun c15 => ?_)
    · refine jt_go jm_m186 14 1 (f' := (28, [(0, .inr (.inr (4, 0, 0))), (1, .inl (nI c)), (2, .inl (y)), (3, .inl (z))], [.inl ((-1))], h)) (P := True) rfl trivial ?_
      refine jt_iret jm_m186 15 rfl ?_
      exact ⟨jt_li (if_neg (fun z => c15 z.2.1)).symm, jg_fr_rf⟩
    · obtain ⟨n, hbn, rfl⟩ := jx_win (by decide) c15
      refine jt_go jm_m186 9 3 (f' := (21, [(0, .inr (.inr (4, 0, 0))), (1, .inl (nI c)), (2, .inl (nI n)), (3, .inl (z))], [.inl (nI 1), .inl (nI 0), .inl (z)], h)) (P := True) rfl trivial ?_
      refine jt_callp (w := .inl (jm_b (nI 0 ≤ z ∧ z ≤ nI 1))) jm_m186 12 (mi' := 143) (as := [.inl (z), .inl (nI 0), .inl (nI 1)]) (rest := []) (nxt := 24) rfl rfl jm_m143 rfl rfl (tb_isIn) ?_
      refine jt_ifbne jm_m186 13 (tgt := 29) (nxt := 27) rfl rfl rfl (fun c24 => ?_) (fun c24 => ?_)
      · obtain ⟨w, hbw, rfl⟩ := jx_win (by decide) c24
        refine jt_go jm_m186 16 2 (f' := (31, [(0, .inr (.inr (4, 0, 0))), (1, .inl (nI c)), (2, .inl (nI n)), (3, .inl (nI w))], [.inl (nI n), .inr (.inr (4, 0, 0))], h)) (P := True) rfl trivial ?_
        refine jt_call jm_m186 18 (mi' := 185) (as := [.inr (.inr (4, 0, 0)), .inl (nI n)]) (rest := []) (nxt := 34) rfl rfl jm_m185 rfl rfl (tb_takes R W (by omega)) ?_
        rintro u h1 ⟨rfl, Rh1, Fh1⟩
        show jt_T 186 (34, [(0, .inr (.inr (4, 0, 0))), (1, .inl (nI c)), (2, .inl (nI n)), (3, .inl (nI w))], [], h1) _
        have Wh1 : jw (sp_it g n) := (jw_it W _).1
        have Zh1 := jg_mov0 R Fh1
        refine jt_go jm_m186 19 6 (f' := (42, [(0, .inr (.inr (4, 0, 0))), (1, .inl (nI c)), (2, .inl (nI n)), (3, .inl (nI w))], [.inl ((nI 2) + (nI w)), .inl (nI c), .inr (.inr (5, 1, 0))], h1)) (P := True) rfl trivial ?_
        refine jt_ti (show ((nI 2) + (nI w)) = nI (2 + w) from nI_add _ _) ?_
        refine jt_callp (w := .inl (nI (36 + 5 * c + (2 + w)))) jm_m186 25 (mi' := 147) (as := [.inl (nI c), .inl (nI (2 + w))]) (rest := [.inr (.inr (5, 1, 0))]) (nxt := 45) rfl rfl jm_m147 rfl rfl (tb_ofC (k := 36 + 5 * c + (2 + w)) (by omega)) ?_
        refine jt_go jm_m186 26 1 (f' := (46, [(0, .inr (.inr (4, 0, 0))), (1, .inl (nI c)), (2, .inl (nI n)), (3, .inl (nI w))], [.inl (h1 (5, 1, 0) (nI (36 + 5 * c + (2 + w))).toNatClampNeg)], h1)) (P := vp_in (nI (36 + 5 * c + (2 + w))) 78 ∧ True) rfl ⟨(vp_in_nI (by omega) (by decide)), trivial⟩ ?_
        refine jt_ti (show (h1 (5, 1, 0) (nI (36 + 5 * c + (2 + w))).toNatClampNeg) = nI ((sp_it g n) (36 + 5 * c + (2 + w))) from jg_get Rh1 (k := 36 + 5 * c + (2 + w)) (nI_clamp (by omega)) (by omega)) ?_
        refine jt_iret jm_m186 27 rfl ?_
        refine ⟨jt_li ?_, Fh1⟩
        unfold za_catThen
        rw [if_pos ⟨c5, c15, c24⟩, nI_clamp (n := c) (by omega), nI_clamp (n := n) (by omega), nI_clamp (n := w) (by omega)]
        unfold zb_catThen
        exact congrArg (fun z => nI (sp_it g n z)) (by omega)
      · refine jt_go jm_m186 14 1 (f' := (28, [(0, .inr (.inr (4, 0, 0))), (1, .inl (nI c)), (2, .inl (nI n)), (3, .inl (z))], [.inl ((-1))], h)) (P := True) rfl trivial ?_
        refine jt_iret jm_m186 15 rfl ?_
        exact ⟨jt_li (if_neg (fun z => c24 z.2.2)).symm, jg_fr_rf⟩
def zb_then (g : Nat → Nat) (n w : Nat) : Int32 := if w = 0 then nI (sp_pb (sp_it g n)) else nI (sp_sum (fun p => sp_it g n (4 + p)) 16)
def za_then (g : Nat → Nat) (x y : Int32) : Int32 := if (nI 0 ≤ x ∧ x ≤ nI 99) ∧ (nI 0 ≤ y ∧ y ≤ nI 1) then zb_then g x.toNatClampNeg y.toNatClampNeg else (-1)
set_option maxHeartbeats 4000000 in
set_option maxRecDepth 20000 in
theorem ca_then {h : jm_M} {g : Nat → Nat} (R : jf_rel h 0 g) (W : jw g) {x y : Int32} : jt_T 85 (0, [(0, .inr (.inr (0, 0, 0))), (1, .inl (x)), (2, .inl (y))], [], h) (fun u h' => u = some (.inl (za_then g x y)) ∧ jf_fr 1 h h') := by
  have bn := jw_n W
  have bm := jw_m W
  have bt := jw_t W
  refine jt_go jm_m85 0 1 (f' := (1, [(0, .inr (.inr (0, 0, 0))), (1, .inl (x)), (2, .inl (y))], [.inl (x)], h)) (P := True) rfl trivial ?_
  refine jt_callp (w := .inl (jm_b (nI 0 ≤ x ∧ x ≤ nI 99))) jm_m85 1 (mi' := 141) (as := [.inl (x)]) (rest := []) (nxt := 4) rfl rfl jm_m141 rfl rfl (ta_ahead) ?_
  refine jt_ifbeq jm_m85 2 (tgt := 16) (nxt := 7) rfl rfl rfl (fun c4 => ?_) (fun c4 => ?_)
  · refine jt_go jm_m85 8 1 (f' := (17, [(0, .inr (.inr (0, 0, 0))), (1, .inl (x)), (2, .inl (y))], [.inl ((-1))], h)) (P := True) rfl trivial ?_
    refine jt_iret jm_m85 9 rfl ?_
    exact ⟨jt_li (if_neg (fun z => c4 z.1)).symm, jf_fr_rf⟩
  · obtain ⟨n, hbn, rfl⟩ := jx_win (by decide) c4
    refine jt_go jm_m85 3 3 (f' := (10, [(0, .inr (.inr (0, 0, 0))), (1, .inl (nI n)), (2, .inl (y))], [.inl (nI 1), .inl (nI 0), .inl (y)], h)) (P := True) rfl trivial ?_
    refine jt_callp (w := .inl (jm_b (nI 0 ≤ y ∧ y ≤ nI 1))) jm_m85 6 (mi' := 136) (as := [.inl (y), .inl (nI 0), .inl (nI 1)]) (rest := []) (nxt := 13) rfl rfl jm_m136 rfl rfl (ta_within) ?_
    refine jt_ifbne jm_m85 7 (tgt := 18) (nxt := 16) rfl rfl rfl (fun c13 => ?_) (fun c13 => ?_)
    · obtain ⟨w, hbw, rfl⟩ := jx_win (by decide) c13
      refine jt_go jm_m85 10 2 (f' := (20, [(0, .inr (.inr (0, 0, 0))), (1, .inl (nI n)), (2, .inl (nI w))], [.inl (nI n), .inr (.inr (0, 0, 0))], h)) (P := True) rfl trivial ?_
      refine jt_call jm_m85 12 (mi' := 132) (as := [.inr (.inr (0, 0, 0)), .inl (nI n)]) (rest := []) (nxt := 23) rfl rfl jm_m132 rfl rfl (ta_look R W (by omega)) ?_
      rintro u h1 ⟨rfl, Rh1, Fh1⟩
      show jt_T 85 (23, [(0, .inr (.inr (0, 0, 0))), (1, .inl (nI n)), (2, .inl (nI w))], [], h1) _
      have Wh1 : jw (sp_it g n) := (jw_it W _).1
      have Zh1 := jf_mov0 R Fh1
      refine jt_go jm_m85 13 1 (f' := (24, [(0, .inr (.inr (0, 0, 0))), (1, .inl (nI n)), (2, .inl (nI w))], [.inl (nI w)], h1)) (P := True) rfl trivial ?_
      refine jt_nifne jm_m85 14 (by omega) (tgt := 37) (nxt := 27) rfl rfl rfl (fun c24 => ?_) (fun c24 => ?_)
      · refine jt_go jm_m85 19 2 (f' := (41, [(0, .inr (.inr (0, 0, 0))), (1, .inl (nI n)), (2, .inl (nI w))], [.inr (.inr (2, 1, 0))], h1)) (P := True) rfl trivial ?_
        refine jt_callp (w := .inl (nI (sp_sum (fun p => (sp_it g n) (4 + p)) 16))) jm_m85 21 (mi' := 31) (as := [.inr (.inr (2, 1, 0))]) (rest := []) (nxt := 44) rfl rfl jm_m31 rfl rfl (ta_fish Rh1 Wh1) ?_
        refine jt_iret jm_m85 22 rfl ?_
        refine ⟨jt_li ?_, Fh1⟩
        unfold za_then
        rw [if_pos ⟨c4, c13⟩, nI_clamp (n := n) (by omega), nI_clamp (n := w) (by omega)]
        unfold zb_then
        (repeat' split) <;> first | done | rfl | (exfalso; omega) | exact (jm_b_pos (by assumption)).symm | exact (jm_b_neg (by assumption)).symm | exact congrArg (fun z => nI (g z)) (by omega) | exact congrArg nI (by omega) | (congr 1; omega)
      · refine jt_go jm_m85 15 3 (f' := (34, [(0, .inr (.inr (0, 0, 0))), (1, .inl (nI n)), (2, .inl (nI w))], [.inl (h1 (2, 1, 0) 13)], h1)) (P := True) rfl trivial ?_
        refine jt_ti (show (h1 (2, 1, 0) 13) = nI (sp_pb (sp_it g n)) from jf_pass Rh1) ?_
        have bq1 := jw_pb Wh1
        refine jt_go jm_m85 18 1 (f' := (44, [(0, .inr (.inr (0, 0, 0))), (1, .inl (nI n)), (2, .inl (nI w))], [.inl (nI (sp_pb (sp_it g n)))], h1)) (P := True) rfl trivial ?_
        refine jt_iret jm_m85 22 rfl ?_
        refine ⟨jt_li ?_, Fh1⟩
        unfold za_then
        rw [if_pos ⟨c4, c13⟩, nI_clamp (n := n) (by omega), nI_clamp (n := w) (by omega)]
        unfold zb_then
        (repeat' split) <;> first | done | rfl | (exfalso; omega) | exact (jm_b_pos (by assumption)).symm | exact (jm_b_neg (by assumption)).symm | exact congrArg (fun z => nI (g z)) (by omega) | exact congrArg nI (by omega) | (congr 1; omega)
    · refine jt_go jm_m85 8 1 (f' := (17, [(0, .inr (.inr (0, 0, 0))), (1, .inl (nI n)), (2, .inl (y))], [.inl ((-1))], h)) (P := True) rfl trivial ?_
      refine jt_iret jm_m85 9 rfl ?_
      exact ⟨jt_li (if_neg (fun z => c13 z.2)).symm, jf_fr_rf⟩
set_option maxHeartbeats 4000000 in
set_option maxRecDepth 20000 in
theorem cb_then {h : jm_M} {g : Nat → Nat} (R : jg_rel h 0 g) (W : jw g) {x y : Int32} : jt_T 188 (0, [(0, .inr (.inr (4, 0, 0))), (1, .inl (x)), (2, .inl (y))], [], h) (fun u h' => u = some (.inl (za_then g x y)) ∧ jg_fr 1 h h') := by
  have bn := jw_n W
  have bm := jw_m W
  have bt := jw_t W
  refine jt_go jm_m188 0 3 (f' := (4, [(0, .inr (.inr (4, 0, 0))), (1, .inl (x)), (2, .inl (y))], [.inl (nI 99), .inl (nI 0), .inl (x)], h)) (P := True) rfl trivial ?_
  refine jt_callp (w := .inl (jm_b (nI 0 ≤ x ∧ x ≤ nI 99))) jm_m188 3 (mi' := 143) (as := [.inl (x), .inl (nI 0), .inl (nI 99)]) (rest := []) (nxt := 7) rfl rfl jm_m143 rfl rfl (tb_isIn) ?_
  refine jt_ifbeq jm_m188 4 (tgt := 19) (nxt := 10) rfl rfl rfl (fun c7 => ?_) (fun c7 => ?_)
  · refine jt_go jm_m188 10 1 (f' := (20, [(0, .inr (.inr (4, 0, 0))), (1, .inl (x)), (2, .inl (y))], [.inl ((-1))], h)) (P := True) rfl trivial ?_
    refine jt_iret jm_m188 11 rfl ?_
    exact ⟨jt_li (if_neg (fun z => c7 z.1)).symm, jg_fr_rf⟩
  · obtain ⟨n, hbn, rfl⟩ := jx_win (by decide) c7
    refine jt_go jm_m188 5 3 (f' := (13, [(0, .inr (.inr (4, 0, 0))), (1, .inl (nI n)), (2, .inl (y))], [.inl (nI 1), .inl (nI 0), .inl (y)], h)) (P := True) rfl trivial ?_
    refine jt_callp (w := .inl (jm_b (nI 0 ≤ y ∧ y ≤ nI 1))) jm_m188 8 (mi' := 143) (as := [.inl (y), .inl (nI 0), .inl (nI 1)]) (rest := []) (nxt := 16) rfl rfl jm_m143 rfl rfl (tb_isIn) ?_
    refine jt_ifbne jm_m188 9 (tgt := 21) (nxt := 19) rfl rfl rfl (fun c16 => ?_) (fun c16 => ?_)
    · obtain ⟨w, hbw, rfl⟩ := jx_win (by decide) c16
      refine jt_go jm_m188 12 2 (f' := (23, [(0, .inr (.inr (4, 0, 0))), (1, .inl (nI n)), (2, .inl (nI w))], [.inl (nI n), .inr (.inr (4, 0, 0))], h)) (P := True) rfl trivial ?_
      refine jt_call jm_m188 14 (mi' := 185) (as := [.inr (.inr (4, 0, 0)), .inl (nI n)]) (rest := []) (nxt := 26) rfl rfl jm_m185 rfl rfl (tb_takes R W (by omega)) ?_
      rintro u h1 ⟨rfl, Rh1, Fh1⟩
      show jt_T 188 (26, [(0, .inr (.inr (4, 0, 0))), (1, .inl (nI n)), (2, .inl (nI w))], [], h1) _
      have Wh1 : jw (sp_it g n) := (jw_it W _).1
      have Zh1 := jg_mov0 R Fh1
      refine jt_go jm_m188 15 1 (f' := (27, [(0, .inr (.inr (4, 0, 0))), (1, .inl (nI n)), (2, .inl (nI w))], [.inl (nI w)], h1)) (P := True) rfl trivial ?_
      refine jt_nifne jm_m188 16 (by omega) (tgt := 40) (nxt := 30) rfl rfl rfl (fun c27 => ?_) (fun c27 => ?_)
      · refine jt_go jm_m188 21 2 (f' := (44, [(0, .inr (.inr (4, 0, 0))), (1, .inl (nI n)), (2, .inl (nI w))], [.inr (.inr (5, 1, 0))], h1)) (P := True) rfl trivial ?_
        refine jt_callp (w := .inl (nI (sp_sum (fun p => (sp_it g n) (4 + p)) 16))) jm_m188 23 (mi' := 187) (as := [.inr (.inr (5, 1, 0))]) (rest := []) (nxt := 47) rfl rfl jm_m187 rfl rfl (tb_fish Rh1 Wh1) ?_
        refine jt_iret jm_m188 24 rfl ?_
        refine ⟨jt_li ?_, Fh1⟩
        unfold za_then
        rw [if_pos ⟨c7, c16⟩, nI_clamp (n := n) (by omega), nI_clamp (n := w) (by omega)]
        unfold zb_then
        (repeat' split) <;> first | done | rfl | (exfalso; omega) | exact (jm_b_pos (by assumption)).symm | exact (jm_b_neg (by assumption)).symm | exact congrArg (fun z => nI (g z)) (by omega) | exact congrArg nI (by omega) | (congr 1; omega)
      · refine jt_go jm_m188 17 2 (f' := (34, [(0, .inr (.inr (4, 0, 0))), (1, .inl (nI n)), (2, .inl (nI w))], [.inr (.inr (5, 1, 0))], h1)) (P := True) rfl trivial ?_
        refine jt_callp (w := .inl (nI (sp_pb (sp_it g n)))) jm_m188 19 (mi' := 165) (as := [.inr (.inr (5, 1, 0))]) (rest := []) (nxt := 37) rfl rfl jm_m165 rfl rfl (tb_passed Rh1 Wh1) ?_
        have bq1 := jw_pb Wh1
        refine jt_go jm_m188 20 1 (f' := (47, [(0, .inr (.inr (4, 0, 0))), (1, .inl (nI n)), (2, .inl (nI w))], [.inl (nI (sp_pb (sp_it g n)))], h1)) (P := True) rfl trivial ?_
        refine jt_iret jm_m188 24 rfl ?_
        refine ⟨jt_li ?_, Fh1⟩
        unfold za_then
        rw [if_pos ⟨c7, c16⟩, nI_clamp (n := n) (by omega), nI_clamp (n := w) (by omega)]
        unfold zb_then
        (repeat' split) <;> first | done | rfl | (exfalso; omega) | exact (jm_b_pos (by assumption)).symm | exact (jm_b_neg (by assumption)).symm | exact congrArg (fun z => nI (g z)) (by omega) | exact congrArg nI (by omega) | (congr 1; omega)
    · refine jt_go jm_m188 10 1 (f' := (20, [(0, .inr (.inr (4, 0, 0))), (1, .inl (nI n)), (2, .inl (y))], [.inl ((-1))], h)) (P := True) rfl trivial ?_
      refine jt_iret jm_m188 11 rfl ?_
      exact ⟨jt_li (if_neg (fun z => c16 z.2)).symm, jg_fr_rf⟩
def zb_count (g : Nat → Nat) (w : Nat) : Int32 := if w < 4 then nI (g w) else if w = 4 then nI (sp_pb g) else if w = 5 then nI (sp_sum (fun p => g (4 + p)) 16) else nI (sp_bits (fun c => decide (sp_read g c)) (g 0))
def za_count (g : Nat → Nat) (x : Int32) : Int32 := if nI 0 ≤ x ∧ x ≤ nI 6 then zb_count g x.toNatClampNeg else (-1)
set_option maxHeartbeats 4000000 in
set_option maxRecDepth 20000 in
theorem ca_count {h : jm_M} {g : Nat → Nat} (R : jf_rel h 0 g) (W : jw g) {x : Int32} : jt_T 126 (0, [(0, .inr (.inr (0, 0, 0))), (1, .inl (x))], [], h) (fun u h' => u = some (.inl (za_count g x)) ∧ jf_fr 1 h h') := by
  have bn := jw_n W
  have bm := jw_m W
  have bt := jw_t W
  refine jt_go jm_m126 0 1 (f' := (1, [(0, .inr (.inr (0, 0, 0))), (1, .inl (x))], [.inl (x)], h)) (P := True) rfl trivial ?_
  refine jt_ts jm_m126 1 rfl ⟨fun d0 => ?_, fun d0 => ⟨fun d1 => ?_, fun d1 => ⟨fun d2 => ?_, fun d2 => ⟨fun d3 => ?_, fun d3 => ⟨fun d4 => ?_, fun d4 => ⟨fun d5 => ?_, fun d5 => ⟨fun d6 => ?_, fun d6 => ?_⟩⟩⟩⟩⟩⟩⟩
  · have d0 : x = nI 0 := d0
    show jt_T 126 (44, [(0, .inr (.inr (0, 0, 0))), (1, .inl (x))], [], h) _
    refine jt_go jm_m126 2 3 (f' := (51, [(0, .inr (.inr (0, 0, 0))), (1, .inl (x))], [.inl (h (2, 0, 0) 9)], h)) (P := True) rfl trivial ?_
    refine jt_ti (show (h (2, 0, 0) 9) = nI (g 0) from jf_cats R) ?_
    have bq1 := jw_n W
    refine jt_iret jm_m126 5 rfl ?_
    subst d0
    refine ⟨jt_li ?_, jf_fr_rf⟩
    unfold za_count
    rw [if_pos ⟨nI_pos' (by decide), (nI_leI (by decide) (by decide)).mpr (by decide)⟩, nI_clamp (n := 0) (by omega)]
    unfold zb_count
    (repeat' split) <;> first | done | rfl | (exfalso; omega) | exact (jm_b_pos (by assumption)).symm | exact (jm_b_neg (by assumption)).symm | exact congrArg (fun z => nI (g z)) (by omega) | exact congrArg nI (by omega) | (congr 1; omega)
  · have d1 : x = nI 1 := d1
    show jt_T 126 (52, [(0, .inr (.inr (0, 0, 0))), (1, .inl (x))], [], h) _
    refine jt_go jm_m126 6 3 (f' := (59, [(0, .inr (.inr (0, 0, 0))), (1, .inl (x))], [.inl (h (2, 0, 0) 10)], h)) (P := True) rfl trivial ?_
    refine jt_ti (show (h (2, 0, 0) 10) = nI (g 1) from jf_men R) ?_
    have bq2 := jw_m W
    refine jt_iret jm_m126 9 rfl ?_
    subst d1
    refine ⟨jt_li ?_, jf_fr_rf⟩
    unfold za_count
    rw [if_pos ⟨nI_pos' (by decide), (nI_leI (by decide) (by decide)).mpr (by decide)⟩, nI_clamp (n := 1) (by omega)]
    unfold zb_count
    (repeat' split) <;> first | done | rfl | (exfalso; omega) | exact (jm_b_pos (by assumption)).symm | exact (jm_b_neg (by assumption)).symm | exact congrArg (fun z => nI (g z)) (by omega) | exact congrArg nI (by omega) | (congr 1; omega)
  · have d2 : x = nI 2 := d2
    show jt_T 126 (60, [(0, .inr (.inr (0, 0, 0))), (1, .inl (x))], [], h) _
    refine jt_go jm_m126 10 3 (f' := (67, [(0, .inr (.inr (0, 0, 0))), (1, .inl (x))], [.inl (h (2, 0, 0) 11)], h)) (P := True) rfl trivial ?_
    refine jt_ti (show (h (2, 0, 0) 11) = nI (g 2) from jf_hour R) ?_
    have bq3 := jw_t W
    refine jt_iret jm_m126 13 rfl ?_
    subst d2
    refine ⟨jt_li ?_, jf_fr_rf⟩
    unfold za_count
    rw [if_pos ⟨nI_pos' (by decide), (nI_leI (by decide) (by decide)).mpr (by decide)⟩, nI_clamp (n := 2) (by omega)]
    unfold zb_count
    (repeat' split) <;> first | done | rfl | (exfalso; omega) | exact (jm_b_pos (by assumption)).symm | exact (jm_b_neg (by assumption)).symm | exact congrArg (fun z => nI (g z)) (by omega) | exact congrArg nI (by omega) | (congr 1; omega)
  · have d3 : x = nI 3 := d3
    show jt_T 126 (68, [(0, .inr (.inr (0, 0, 0))), (1, .inl (x))], [], h) _
    refine jt_go jm_m126 14 3 (f' := (75, [(0, .inr (.inr (0, 0, 0))), (1, .inl (x))], [.inl (h (2, 0, 0) 12)], h)) (P := True) rfl trivial ?_
    refine jt_ti (show (h (2, 0, 0) 12) = nI (g 3) from jf_day R) ?_
    refine jt_iret jm_m126 17 rfl ?_
    subst d3
    refine ⟨jt_li ?_, jf_fr_rf⟩
    unfold za_count
    rw [if_pos ⟨nI_pos' (by decide), (nI_leI (by decide) (by decide)).mpr (by decide)⟩, nI_clamp (n := 3) (by omega)]
    unfold zb_count
    (repeat' split) <;> first | done | rfl | (exfalso; omega) | exact (jm_b_pos (by assumption)).symm | exact (jm_b_neg (by assumption)).symm | exact congrArg (fun z => nI (g z)) (by omega) | exact congrArg nI (by omega) | (congr 1; omega)
  · have d4 : x = nI 4 := d4
    show jt_T 126 (76, [(0, .inr (.inr (0, 0, 0))), (1, .inl (x))], [], h) _
    refine jt_go jm_m126 18 3 (f' := (83, [(0, .inr (.inr (0, 0, 0))), (1, .inl (x))], [.inl (h (2, 0, 0) 13)], h)) (P := True) rfl trivial ?_
    refine jt_ti (show (h (2, 0, 0) 13) = nI (sp_pb g) from jf_pass R) ?_
    have bq4 := jw_pb W
    refine jt_iret jm_m126 21 rfl ?_
    subst d4
    refine ⟨jt_li ?_, jf_fr_rf⟩
    unfold za_count
    rw [if_pos ⟨nI_pos' (by decide), (nI_leI (by decide) (by decide)).mpr (by decide)⟩, nI_clamp (n := 4) (by omega)]
    unfold zb_count
    (repeat' split) <;> first | done | rfl | (exfalso; omega) | exact (jm_b_pos (by assumption)).symm | exact (jm_b_neg (by assumption)).symm | exact congrArg (fun z => nI (g z)) (by omega) | exact congrArg nI (by omega) | (congr 1; omega)
  · have d5 : x = nI 5 := d5
    show jt_T 126 (84, [(0, .inr (.inr (0, 0, 0))), (1, .inl (x))], [], h) _
    refine jt_go jm_m126 22 2 (f' := (88, [(0, .inr (.inr (0, 0, 0))), (1, .inl (x))], [.inr (.inr (2, 0, 0))], h)) (P := True) rfl trivial ?_
    refine jt_callp (w := .inl (nI (sp_sum (fun p => g (4 + p)) 16))) jm_m126 24 (mi' := 31) (as := [.inr (.inr (2, 0, 0))]) (rest := []) (nxt := 91) rfl rfl jm_m31 rfl rfl (ta_fish R W) ?_
    refine jt_iret jm_m126 25 rfl ?_
    subst d5
    refine ⟨jt_li ?_, jf_fr_rf⟩
    unfold za_count
    rw [if_pos ⟨nI_pos' (by decide), (nI_leI (by decide) (by decide)).mpr (by decide)⟩, nI_clamp (n := 5) (by omega)]
    unfold zb_count
    (repeat' split) <;> first | done | rfl | (exfalso; omega) | exact (jm_b_pos (by assumption)).symm | exact (jm_b_neg (by assumption)).symm | exact congrArg (fun z => nI (g z)) (by omega) | exact congrArg nI (by omega) | (congr 1; omega)
  · have d6 : x = nI 6 := d6
    show jt_T 126 (92, [(0, .inr (.inr (0, 0, 0))), (1, .inl (x))], [], h) _
    refine jt_go jm_m126 26 2 (f' := (96, [(0, .inr (.inr (0, 0, 0))), (1, .inl (x))], [.inr (.inr (2, 0, 0))], h)) (P := True) rfl trivial ?_
    refine jt_callp (w := .inl (nI (sp_bits (fun c => decide (sp_read g c)) (g 0)))) jm_m126 28 (mi' := 27) (as := [.inr (.inr (2, 0, 0))]) (rest := []) (nxt := 99) rfl rfl jm_m27 rfl rfl (ta_readable R W) ?_
    refine jt_iret jm_m126 29 rfl ?_
    subst d6
    refine ⟨jt_li ?_, jf_fr_rf⟩
    unfold za_count
    rw [if_pos ⟨nI_pos' (by decide), (nI_leI (by decide) (by decide)).mpr (by decide)⟩, nI_clamp (n := 6) (by omega)]
    unfold zb_count
    (repeat' split) <;> first | done | rfl | (exfalso; omega) | exact (jm_b_pos (by assumption)).symm | exact (jm_b_neg (by assumption)).symm | exact congrArg (fun z => nI (g z)) (by omega) | exact congrArg nI (by omega) | (congr 1; omega)
  · show jt_T 126 (100, [(0, .inr (.inr (0, 0, 0))), (1, .inl (x))], [], h) _
    refine jt_go jm_m126 30 1 (f' := (101, [(0, .inr (.inr (0, 0, 0))), (1, .inl (x))], [.inl ((-1))], h)) (P := True) rfl trivial ?_
    refine jt_iret jm_m126 31 rfl ?_
    exact ⟨jt_li (if_neg (fun z => jx_nwin (by decide) (fun j hj => by
      rcases (show j = 0 ∨ j = 1 ∨ j = 2 ∨ j = 3 ∨ j = 4 ∨ j = 5 ∨ j = 6 by omega) with rfl | rfl | rfl | rfl | rfl | rfl | rfl
      · exact d0
      · exact d1
      · exact d2
      · exact d3
      · exact d4
      · exact d5
      · exact d6) z)).symm, jf_fr_rf⟩
end
section
/-! THE FACE: hours on, the first at which something is so. -/
/-- the first of d numbers from k on with P -/
def sp_fi (P : Nat → Bool) : Nat → Nat → Option Nat
  | _, 0 => none
  | k, d + 1 => if P k = true then some k else sp_fi P (k + 1) d
theorem sp_fi_pos {P : Nat → Bool} {k n : Nat} (hk : k < n) (h : P k = true) : sp_fi P k (n - k) = some k := by
  obtain ⟨d, hd⟩ : ∃ d, n - k = d + 1 := ⟨n - k - 1, by omega⟩
  rw [hd]
  exact if_pos h
theorem sp_fi_neg {P : Nat → Bool} {k n : Nat} (hk : k < n) (h : ¬ P k = true) : sp_fi P k (n - k) = sp_fi P (k + 1) (n - (k + 1)) := by
  obtain ⟨d, hd⟩ : ∃ d, n - k = d + 1 := ⟨n - k - 1, by omega⟩
  rw [hd, show n - (k + 1) = d by omega]
  exact if_neg h
theorem sp_fi_some {P : Nat → Bool} : ∀ d k j, sp_fi P k d = some j → k ≤ j ∧ j < k + d ∧ P j = true ∧ ∀ i, k ≤ i → i < j → ¬ P i = true := by
  intro d
  induction d with
  | zero => intro k j h; cases h
  | succ d ih =>
    intro k j h
    unfold sp_fi at h
    split at h
    · rename_i q; cases h; exact ⟨Nat.le_refl _, by omega, q, fun i h1 h2 => absurd h1 (by omega)⟩
    · rename_i q
      obtain ⟨h1, h2, h3, h4⟩ := ih (k + 1) j h
      refine ⟨by omega, by omega, h3, fun i h5 h6 => ?_⟩
      by_cases e : i = k
      · subst e; exact q
      · exact h4 i (by omega) h6
theorem sp_fi_none {P : Nat → Bool} : ∀ d k, sp_fi P k d = none → ∀ i, k ≤ i → i < k + d → ¬ P i = true := by
  intro d
  induction d with
  | zero => intro k _ i h1 h2; omega
  | succ d ih =>
    intro k h i h1 h2
    unfold sp_fi at h
    split at h
    · cases h
    · rename_i q
      by_cases e : i = k
      · subst e; exact q
      · exact ih (k + 1) h i (by omega) (by omega)
set_option maxHeartbeats 4000000 in
set_option maxRecDepth 20000 in
theorem ca_crosses_l {h : jm_M} {g : Nat → Nat} (W : jw g) {c : Nat} (hc : c < g 0) : ∀ k, k ≤ 99 → ∀ hm : jm_M, (jf_rel hm 1 (sp_it g k)) → (jf_fr 1 h hm) → jt_T 86 (26, [(0, .inr (.inr (0, 0, 0))), (1, .inl (nI c)), (2, .inl (nI (k + 1)))], [], hm) (fun u h' => u = some (.inl (jo ((sp_fi (fun k => decide (sp_set (sp_it g k) false / 2 ^ c % 2 = 1)) k (99 - k)).map (fun z => z + 1)))) ∧ jf_fr 1 h h') := jx_up (P := fun k => ∀ hm : jm_M, (jf_rel hm 1 (sp_it g k)) → (jf_fr 1 h hm) → jt_T 86 (26, [(0, .inr (.inr (0, 0, 0))), (1, .inl (nI c)), (2, .inl (nI (k + 1)))], [], hm) (fun u h' => u = some (.inl (jo ((sp_fi (fun k => decide (sp_set (sp_it g k) false / 2 ^ c % 2 = 1)) k (99 - k)).map (fun z => z + 1)))) ∧ jf_fr 1 h h')) (fun k hk nx hm Rm Fm => by
  have Wk := (jw_it W k).1
  have e0 := (jw_it W k).2.1
  have e1 := (jw_it W k).2.2
  have bn := jw_n W
  have bm := jw_m W
  refine jt_go jm_m86 14 2 (f' := (29, [(0, .inr (.inr (0, 0, 0))), (1, .inl (nI c)), (2, .inl (nI (k + 1)))], [.inl (nI 99), .inl (nI (k + 1))], hm)) (P := True) rfl trivial ?_
  refine jt_nicgt jm_m86 16 (a := k + 1) (b := 99) (by omega) (by omega) (tgt := 58) (nxt := 32) rfl rfl rfl (fun c29 => ?_) (fun c29 => ?_)
  · refine jt_go jm_m86 29 1 (f' := (60, [(0, .inr (.inr (0, 0, 0))), (1, .inl (nI c)), (2, .inl (nI (k + 1)))], [.inl ((-4))], hm)) (P := True) rfl trivial ?_
    refine jt_iret jm_m86 30 rfl ?_
    have e : k = 99 := by omega
    subst e
    exact ⟨rfl, Fm⟩
  · refine jt_go jm_m86 17 2 (f' := (36, [(0, .inr (.inr (0, 0, 0))), (1, .inl (nI c)), (2, .inl (nI (k + 1)))], [.inr (.inr (2, 1, 0))], hm)) (P := True) rfl trivial ?_
    refine jt_call jm_m86 19 (mi' := 18) (as := [.inr (.inr (2, 1, 0))]) (rest := []) (nxt := 39) rfl rfl jm_m18 rfl rfl (ta_hour Rm Wk) ?_
    rintro u h1 ⟨rfl, Rh1, Fh1, Ch1⟩
    show jt_T 86 (39, [(0, .inr (.inr (0, 0, 0))), (1, .inl (nI c)), (2, .inl (nI (k + 1)))], [], h1) _
    have Rh1 : jf_rel h1 1 (sp_it g (k + 1)) := Rh1
    have Wh1 := (jw_it W (k + 1)).1
    have uh1 := sp_set_lt Wk (kept := false)
    have Fh1 := jf_fr_tr Fm Fh1
    refine jt_go jm_m86 20 3 (f' := (44, [(0, .inr (.inr (0, 0, 0))), (1, .inl (nI c)), (2, .inl (nI (k + 1)))], [.inl (nI c), .inr (.inr (2, 1, 0))], h1)) (P := True) rfl trivial ?_
    refine jt_callp (w := .inl (jm_b ((sp_set (sp_it g k) false) / 2 ^ c % 2 = 1))) jm_m86 23 (mi' := 11) (as := [.inr (.inr (2, 1, 0)), .inl (nI c)]) (rest := []) (nxt := 47) rfl rfl jm_m11 rfl rfl (ta_hasCrossed uh1 Ch1 (by omega)) ?_
    refine jt_ifbeq jm_m86 24 (tgt := 52) (nxt := 50) rfl rfl rfl (fun c47 => ?_) (fun c47 => ?_)
    · refine jt_inc jm_m86 27 (c := k + 1) (L' := [(2, .inl (nI (k + 1 + 1))), (0, .inr (.inr (0, 0, 0))), (1, .inl (nI c))]) rfl rfl rfl rfl ?_
      refine jt_go jm_m86 28 1 (f' := (26, [(2, .inl (nI (k + 1 + 1))), (0, .inr (.inr (0, 0, 0))), (1, .inl (nI c))], [], h1)) (P := True) rfl trivial ?_
      refine jt_pick (L' := [(0, .inr (.inr (0, 0, 0))), (1, .inl (nI c)), (2, .inl (nI (k + 1 + 1)))]) [1, 2, 0] rfl ?_
      rw [sp_fi_neg (by omega) (fun z => c47 (of_decide_eq_true z))]
      exact nx (by omega) h1 Rh1 Fh1
    · refine jt_go jm_m86 25 1 (f' := (51, [(0, .inr (.inr (0, 0, 0))), (1, .inl (nI c)), (2, .inl (nI (k + 1)))], [.inl (nI (k + 1))], h1)) (P := True) rfl trivial ?_
      refine jt_iret jm_m86 26 rfl ?_
      rw [sp_fi_pos (by omega) (decide_eq_true c47)]
      exact ⟨rfl, Fh1⟩)
set_option maxHeartbeats 4000000 in
set_option maxRecDepth 20000 in
theorem cb_crosses_l {h : jm_M} {g : Nat → Nat} (W : jw g) {c : Nat} (hc : c < g 0) : ∀ k, k ≤ 99 → ∀ hm : jm_M, (jg_rel hm 1 (sp_it g k)) → (jg_fr 1 h hm) → jt_T 189 (23, [(0, .inr (.inr (4, 0, 0))), (1, .inl (nI c)), (2, .inl (nI (k + 1)))], [], hm) (fun u h' => u = some (.inl (jo ((sp_fi (fun k => decide (sp_set (sp_it g k) false / 2 ^ c % 2 = 1)) k (99 - k)).map (fun z => z + 1)))) ∧ jg_fr 1 h h') := jx_up (P := fun k => ∀ hm : jm_M, (jg_rel hm 1 (sp_it g k)) → (jg_fr 1 h hm) → jt_T 189 (23, [(0, .inr (.inr (4, 0, 0))), (1, .inl (nI c)), (2, .inl (nI (k + 1)))], [], hm) (fun u h' => u = some (.inl (jo ((sp_fi (fun k => decide (sp_set (sp_it g k) false / 2 ^ c % 2 = 1)) k (99 - k)).map (fun z => z + 1)))) ∧ jg_fr 1 h h')) (fun k hk nx hm Rm Fm => by
  have Wk := (jw_it W k).1
  have e0 := (jw_it W k).2.1
  have e1 := (jw_it W k).2.2
  have bn := jw_n W
  have bm := jw_m W
  refine jt_go jm_m189 13 2 (f' := (26, [(0, .inr (.inr (4, 0, 0))), (1, .inl (nI c)), (2, .inl (nI (k + 1)))], [.inl (nI 99), .inl (nI (k + 1))], hm)) (P := True) rfl trivial ?_
  refine jt_nicgt jm_m189 15 (a := k + 1) (b := 99) (by omega) (by omega) (tgt := 52) (nxt := 29) rfl rfl rfl (fun c26 => ?_) (fun c26 => ?_)
  · refine jt_go jm_m189 27 1 (f' := (54, [(0, .inr (.inr (4, 0, 0))), (1, .inl (nI c)), (2, .inl (nI (k + 1)))], [.inl ((-4))], hm)) (P := True) rfl trivial ?_
    refine jt_iret jm_m189 28 rfl ?_
    have e : k = 99 := by omega
    subst e
    exact ⟨rfl, Fm⟩
  · refine jt_go jm_m189 16 3 (f' := (34, [(0, .inr (.inr (4, 0, 0))), (1, .inl (nI c)), (2, .inl (nI (k + 1)))], [.inl (nI 0), .inr (.inr (5, 1, 0))], hm)) (P := True) rfl trivial ?_
    refine jt_call jm_m189 19 (mi' := 163) (as := [.inr (.inr (5, 1, 0)), .inl (nI 0)]) (rest := []) (nxt := 37) rfl rfl jm_m163 rfl rfl (tb_hour0 Rm Wk) ?_
    rintro u h1 ⟨rfl, Rh1, Fh1⟩
    show jt_T 189 (37, [(0, .inr (.inr (4, 0, 0))), (1, .inl (nI c)), (2, .inl (nI (k + 1)))], [.inl (nI (sp_set (sp_it g k) false))], h1) _
    have Rh1 : jg_rel h1 1 (sp_it g (k + 1)) := Rh1
    have Wh1 := (jw_it W (k + 1)).1
    have uh1 := sp_set_lt Wk (kept := false)
    have Fh1 := jg_fr_tr Fm Fh1
    refine jt_go jm_m189 20 1 (f' := (38, [(0, .inr (.inr (4, 0, 0))), (1, .inl (nI c)), (2, .inl (nI (k + 1)))], [.inl (nI c), .inl (nI (sp_set (sp_it g k) false))], h1)) (P := True) rfl trivial ?_
    refine jt_callp (w := .inl (jm_b ((sp_set (sp_it g k) false) / 2 ^ c % 2 = 1))) jm_m189 21 (mi' := 152) (as := [.inl (nI (sp_set (sp_it g k) false)), .inl (nI c)]) (rest := []) (nxt := 41) rfl rfl jm_m152 rfl rfl (tb_has (by omega) (by omega)) ?_
    refine jt_ifbeq jm_m189 22 (tgt := 46) (nxt := 44) rfl rfl rfl (fun c41 => ?_) (fun c41 => ?_)
    · refine jt_inc jm_m189 25 (c := k + 1) (L' := [(2, .inl (nI (k + 1 + 1))), (0, .inr (.inr (4, 0, 0))), (1, .inl (nI c))]) rfl rfl rfl rfl ?_
      refine jt_go jm_m189 26 1 (f' := (23, [(2, .inl (nI (k + 1 + 1))), (0, .inr (.inr (4, 0, 0))), (1, .inl (nI c))], [], h1)) (P := True) rfl trivial ?_
      refine jt_pick (L' := [(0, .inr (.inr (4, 0, 0))), (1, .inl (nI c)), (2, .inl (nI (k + 1 + 1)))]) [1, 2, 0] rfl ?_
      rw [sp_fi_neg (by omega) (fun z => c41 (of_decide_eq_true z))]
      exact nx (by omega) h1 Rh1 Fh1
    · refine jt_go jm_m189 23 1 (f' := (45, [(0, .inr (.inr (4, 0, 0))), (1, .inl (nI c)), (2, .inl (nI (k + 1)))], [.inl (nI (k + 1))], h1)) (P := True) rfl trivial ?_
      refine jt_iret jm_m189 24 rfl ?_
      rw [sp_fi_pos (by omega) (decide_eq_true c41)]
      exact ⟨rfl, Fh1⟩)
def zb_crosses (g : Nat → Nat) (c : Nat) : Int32 := jo ((sp_fi (fun k => decide (sp_set (sp_it g k) false / 2 ^ c % 2 = 1)) 0 99).map (fun z => z + 1))
def za_crosses (g : Nat → Nat) (x : Int32) : Int32 := if nI 0 ≤ x ∧ x < nI (g 0) then zb_crosses g x.toNatClampNeg else (-1)
set_option maxHeartbeats 4000000 in
set_option maxRecDepth 20000 in
theorem ca_crosses {h : jm_M} {g : Nat → Nat} (R : jf_rel h 0 g) (W : jw g) {x : Int32} : jt_T 86 (0, [(0, .inr (.inr (0, 0, 0))), (1, .inl (x))], [], h) (fun u h' => u = some (.inl (za_crosses g x)) ∧ jf_fr 1 h h') := by
  have bn := jw_n W
  have bm := jw_m W
  have bt := jw_t W
  refine jt_go jm_m86 0 3 (f' := (5, [(0, .inr (.inr (0, 0, 0))), (1, .inl (x))], [.inl (x), .inr (.inr (2, 0, 0))], h)) (P := True) rfl trivial ?_
  refine jt_callp (w := .inl (jm_b (nI 0 ≤ x ∧ x < nI (g 0)))) jm_m86 3 (mi' := 7) (as := [.inr (.inr (2, 0, 0)), .inl (x)]) (rest := []) (nxt := 8) rfl rfl jm_m7 rfl rfl (ta_hasCat R W) ?_
  refine jt_ifbne jm_m86 4 (tgt := 13) (nxt := 11) rfl rfl rfl (fun c8 => ?_) (fun c8 => ?_)
  · obtain ⟨c, hbc, rfl⟩ := jx_cat (by omega) c8
    refine jt_go jm_m86 7 4 (f' := (21, [(0, .inr (.inr (0, 0, 0))), (1, .inl (nI c))], [.inr (.inr (2, 0, 0)), .inr (.inr (2, 1, 0))], h)) (P := True) rfl trivial ?_
    refine jt_call jm_m86 11 (mi' := 6) (as := [.inr (.inr (2, 1, 0)), .inr (.inr (2, 0, 0))]) (rest := []) (nxt := 24) rfl rfl jm_m6 rfl rfl (ta_becomes R W (by decide)) ?_
    rintro u h1 ⟨rfl, Rh1, Fh1⟩
    show jt_T 86 (24, [(0, .inr (.inr (0, 0, 0))), (1, .inl (nI c))], [], h1) _
    have Wh1 : jw (g) := W
    have Zh1 := jf_mov0 R Fh1
    refine jt_go jm_m86 12 2 (f' := (26, [(2, .inl (nI 1)), (0, .inr (.inr (0, 0, 0))), (1, .inl (nI c))], [], h1)) (P := True) rfl trivial ?_
    refine jt_pick (L' := [(0, .inr (.inr (0, 0, 0))), (1, .inl (nI c)), (2, .inl (nI 1))]) [1, 2, 0] rfl ?_
    refine jt_mono (ca_crosses_l (h := h1) W hbc 0 (Nat.zero_le _) _ Rh1 jf_fr_rf) (fun u h2 z => ⟨z.1.trans (jt_li ?_), jf_fr_tr Fh1 z.2⟩)
    unfold za_crosses
    rw [if_pos c8, nI_clamp (n := c) (by omega)]
    unfold zb_crosses
    first | done | rfl
  · refine jt_go jm_m86 5 1 (f' := (12, [(0, .inr (.inr (0, 0, 0))), (1, .inl (x))], [.inl ((-1))], h)) (P := True) rfl trivial ?_
    refine jt_iret jm_m86 6 rfl ?_
    exact ⟨jt_li (if_neg (fun z => c8 z)).symm, jf_fr_rf⟩
set_option maxHeartbeats 4000000 in
set_option maxRecDepth 20000 in
theorem cb_crosses {h : jm_M} {g : Nat → Nat} (R : jg_rel h 0 g) (W : jw g) {x : Int32} : jt_T 189 (0, [(0, .inr (.inr (4, 0, 0))), (1, .inl (x))], [], h) (fun u h' => u = some (.inl (za_crosses g x)) ∧ jg_fr 1 h h') := by
  have bn := jw_n W
  have bm := jw_m W
  have bt := jw_t W
  refine jt_go jm_m189 0 2 (f' := (2, [(0, .inr (.inr (4, 0, 0))), (1, .inl (x))], [.inl (x), .inr (.inr (4, 0, 0))], h)) (P := True) rfl trivial ?_
  refine jt_callp (w := .inl (jm_b (nI 0 ≤ x ∧ x < nI (g 0)))) jm_m189 2 (mi' := 149) (as := [.inr (.inr (4, 0, 0)), .inl (x)]) (rest := []) (nxt := 5) rfl rfl jm_m149 rfl rfl (tb_isCat R W) ?_
  refine jt_ifbne jm_m189 3 (tgt := 10) (nxt := 8) rfl rfl rfl (fun c5 => ?_) (fun c5 => ?_)
  · obtain ⟨c, hbc, rfl⟩ := jx_cat (by omega) c5
    refine jt_go jm_m189 6 4 (f' := (18, [(0, .inr (.inr (4, 0, 0))), (1, .inl (nI c))], [.inr (.inr (5, 1, 0)), .inr (.inr (5, 0, 0))], h)) (P := True) rfl trivial ?_
    refine jt_call jm_m189 10 (mi' := 146) (as := [.inr (.inr (5, 0, 0)), .inr (.inr (5, 1, 0))]) (rest := []) (nxt := 21) rfl rfl jm_m146 rfl rfl (tb_copies R (by decide)) ?_
    rintro u h1 ⟨rfl, Rh1, Fh1⟩
    show jt_T 189 (21, [(0, .inr (.inr (4, 0, 0))), (1, .inl (nI c))], [], h1) _
    have Wh1 : jw (g) := W
    have Zh1 := jg_mov0 R Fh1
    refine jt_go jm_m189 11 2 (f' := (23, [(2, .inl (nI 1)), (0, .inr (.inr (4, 0, 0))), (1, .inl (nI c))], [], h1)) (P := True) rfl trivial ?_
    refine jt_pick (L' := [(0, .inr (.inr (4, 0, 0))), (1, .inl (nI c)), (2, .inl (nI 1))]) [1, 2, 0] rfl ?_
    refine jt_mono (cb_crosses_l (h := h1) W hbc 0 (Nat.zero_le _) _ Rh1 jg_fr_rf) (fun u h2 z => ⟨z.1.trans (jt_li ?_), jg_fr_tr Fh1 z.2⟩)
    unfold za_crosses
    rw [if_pos c5, nI_clamp (n := c) (by omega)]
    unfold zb_crosses
    first | done | rfl
  · refine jt_go jm_m189 4 1 (f' := (9, [(0, .inr (.inr (4, 0, 0))), (1, .inl (x))], [.inl ((-1))], h)) (P := True) rfl trivial ?_
    refine jt_iret jm_m189 5 rfl ?_
    exact ⟨jt_li (if_neg (fun z => c5 z)).symm, jg_fr_rf⟩
end
