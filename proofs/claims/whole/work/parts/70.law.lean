/-! THE CLAIM OUT OF ONE WALK OF THE LAW'S BODY. Your part is whole_start (and what it stands on); all else here is the same for every law, but numbers. -/
def R_law : String := "PapersAreOnCatsLaw"
def lw_P (b : Addr) (xs : List Int32) (args : Array Value) (s : State) : Prop := args = #[.ref b] ∧ s.IntsAt b xs ∧ xs.length ≤ 3072 ∧ (Jvm.Cond.and given_1 narrow_1).before args s = true
def lw_Q (_ : Array Value) (s : State) (o : Outcome) (t : State) : Prop := o = .returned (some (.int 1)) ∧ Framed s o t [] 601024 7293034
def lw_Z (below : List Frame) (a : Array Value) (s : State) : State → Prop := fun t => ∃ o, t.status = .running ∧ Ended t below o ∧ lw_Q a s o t
/-- the law's own end, with 1 on the stack, nothing written that was there before, its room as the claim has it -/
theorem lw_ret {p : Program} {l : Launch} {e : Env} {s : State} {m : MethodId} {below : List Frame} {meth : Method} {c : Code} {b : Nat} (hx : p.tables.exec = Jvm.exec) (hb : c.code = code) (hr : meth.sig.returnType = ret) (hlocks : meth.locks = false) {pc : Nat} {H : Heap} {ls : Array Slot} (hdg : decode code pc = .ok (.ireturn, 1)) : W p l e room_1 s m #[Value.ref b] below meth c H [] 601024 7293034 (lw_Z below #[Value.ref b] s) (F0 m pc ls [.int 1]) := by
  intro T hT X
  obtain ⟨fs, hret, hrun, hended, hW, hframe⟩ := X.leave (v := some (.int 1)) (hlocks := hlocks) (fun h => by rw [hr] at h; cases h)
  have hmeth' : T.vm.method? m = some meth := X.method'
  refine ⟨T.setFrames fs, ?_, .returned (some (.int 1)), hrun, hended, rfl, ⟨_, rfl⟩, hW, hframe⟩
  jvm_step X.here [X.here.top, hx, hb, hdg, hmeth', hr, ret, narrow_b1]
  (try refine ⟨rfl, ?_⟩); (try refine ⟨rfl, ?_⟩)
  first | (intro acts; rw [hret _ acts rfl rfl rfl]) | rw [hret _ _ rfl rfl rfl]
  exact Steps.refl _
/-- what holds at the law's entry: the machine, the code, the tables' words (any of lw_tbl by 'hts w (by decide +kernel)'), the script of L ints xs at the cell b, what the Statement gives of the start (any of its parts by flat_of_before) -/
def lw_At (p : Program) (s : State) (m : MethodId) (meth : Method) (c : Code) (b L : Nat) (xs : Nat → Int32) : Prop :=
  p.tables.exec = Jvm.exec ∧ c.code = code ∧ meth.sig.returnType = ret ∧ c.maxLocals = 8 ∧ s.vm.findClass R_law = some m.cls ∧ (∀ w ∈ lw_tbl, w.before #[Value.ref b] s = true) ∧ va_X b L xs s s.heap ∧ b < s.heap.size ∧ meth.locks = false ∧ (Jvm.Cond.and given_1 narrow_1).before #[Value.ref b] s = true
/-! THE LAW: its calls of the small machine's methods. -/
/-- a call of the law's: pool number, parameters, the receiver's class, the method, places of the words -/
abbrev lz_CT : Type := Nat × Nat × Nat × Nat × List Nat
def lz_cok (q : lz_CT) : Bool := match jm_mt[q.2.2.2.1]? with
  | some r => jm_cok1 "PapersAreOnCatsLaw" q.1 2 q.2.1 q.2.2.1 r.1 q.2.2.2.2 && decide (r.2.2.2.2.1 + 1 ≤ 10) && decide (8 + (r.2.2.1 + 11) + r.2.2.2.2.2.1 ≤ 390) && decide (q.2.1 + 1 ≤ r.2.2.1)
  | none => false
def lz_tab : List lz_CT := [(21, 1, 10, 73, [259, 260, 261, 38]),
  (25, 1, 11, 174, [1045, 1046, 1047, 49]),
  (26, 2, 10, 75, [487, 488, 489, 38]),
  (30, 2, 11, 175, [1148, 1149, 1150, 49]),
  (31, 2, 10, 76, [501, 502, 503, 38]),
  (34, 2, 11, 176, [1152, 1153, 1154, 49]),
  (35, 2, 10, 77, [507, 508, 509, 38]),
  (38, 2, 11, 178, [1156, 1157, 1158, 49]),
  (39, 2, 10, 78, [516, 517, 518, 38]),
  (42, 2, 11, 179, [1163, 1164, 1165, 49]),
  (43, 1, 10, 79, [525, 526, 527, 38]),
  (46, 1, 11, 180, [1171, 1172, 1173, 49]),
  (47, 2, 10, 80, [531, 532, 533, 38]),
  (50, 2, 11, 181, [1175, 1176, 1177, 49]),
  (51, 3, 10, 81, [537, 538, 539, 38]),
  (55, 3, 11, 182, [1179, 1180, 1181, 49]),
  (56, 2, 10, 82, [541, 542, 543, 38]),
  (59, 2, 11, 183, [1183, 1184, 1185, 49]),
  (60, 1, 10, 83, [545, 546, 547, 38]),
  (63, 1, 11, 184, [1187, 1188, 1189, 49]),
  (64, 3, 10, 84, [557, 558, 559, 38]),
  (67, 3, 11, 186, [1197, 1198, 1199, 49]),
  (68, 2, 10, 85, [568, 569, 570, 38]),
  (71, 2, 11, 188, [1205, 1206, 1207, 49]),
  (72, 1, 10, 86, [576, 577, 578, 38]),
  (75, 1, 11, 189, [1212, 1213, 1214, 49]),
  (76, 2, 10, 87, [585, 586, 587, 38]),
  (79, 2, 11, 190, [1219, 1220, 1221, 49]),
  (80, 1, 10, 88, [589, 590, 591, 38]),
  (83, 1, 11, 193, [1223, 1224, 1225, 49]),
  (84, 0, 10, 90, [597, 598, 599, 38]),
  (88, 0, 11, 194, [1235, 1236, 1237, 49]),
  (89, 2, 10, 91, [601, 602, 603, 38]),
  (92, 2, 11, 196, [1240, 1241, 1242, 49]),
  (93, 1, 10, 93, [609, 610, 611, 38]),
  (96, 1, 11, 197, [1248, 1249, 1250, 49]),
  (97, 4, 10, 94, [614, 615, 616, 38]),
  (101, 4, 11, 200, [1252, 1253, 1254, 49]),
  (102, 2, 10, 96, [626, 627, 628, 38]),
  (105, 2, 11, 201, [1263, 1264, 1265, 49]),
  (106, 0, 10, 97, [630, 631, 632, 38]),
  (109, 0, 11, 202, [1267, 1268, 1269, 49]),
  (110, 1, 10, 99, [638, 639, 640, 38]),
  (113, 1, 11, 203, [1271, 1272, 1273, 49]),
  (114, 2, 10, 100, [647, 648, 649, 38]),
  (117, 2, 11, 204, [1276, 1277, 1278, 49]),
  (118, 1, 10, 101, [651, 652, 653, 38]),
  (121, 1, 11, 205, [1280, 1281, 1282, 49]),
  (122, 3, 10, 102, [655, 656, 657, 38]),
  (125, 3, 11, 206, [1284, 1285, 1286, 49]),
  (126, 2, 10, 103, [659, 660, 661, 38]),
  (129, 2, 11, 207, [1288, 1289, 1290, 49]),
  (130, 1, 10, 105, [670, 671, 672, 38]),
  (133, 1, 11, 209, [1292, 1293, 1294, 49]),
  (134, 3, 10, 107, [678, 679, 680, 38]),
  (137, 3, 11, 211, [1300, 1301, 1302, 49]),
  (138, 1, 10, 110, [696, 697, 698, 38]),
  (141, 1, 11, 214, [1308, 1309, 1310, 49]),
  (142, 5, 10, 112, [708, 709, 710, 38]),
  (146, 5, 11, 217, [1320, 1321, 1322, 49]),
  (147, 1, 10, 115, [730, 731, 732, 38]),
  (151, 1, 11, 218, [1331, 1332, 1333, 49]),
  (152, 2, 10, 118, [734, 735, 736, 38]),
  (155, 2, 11, 219, [1335, 1336, 1337, 49]),
  (156, 1, 10, 120, [743, 744, 745, 38]),
  (159, 1, 11, 220, [1339, 1340, 1341, 49]),
  (160, 3, 10, 121, [747, 748, 749, 38]),
  (163, 3, 11, 222, [1343, 1344, 1345, 49]),
  (164, 0, 10, 124, [760, 761, 762, 38]),
  (167, 0, 11, 223, [1354, 1355, 1356, 49]),
  (168, 0, 10, 125, [764, 765, 766, 38]),
  (171, 0, 11, 224, [1358, 1359, 1360, 49]),
  (172, 1, 10, 126, [768, 769, 770, 38]),
  (175, 1, 11, 225, [1362, 1363, 1364, 49]),
  (176, 4, 10, 127, [776, 777, 778, 38]),
  (179, 4, 11, 230, [1370, 1371, 1372, 49]),
  (180, 3, 10, 128, [789, 790, 791, 38]),
  (183, 3, 11, 231, [1374, 1375, 1376, 49]),
  (184, 3, 10, 129, [798, 799, 800, 38]),
  (187, 3, 11, 232, [1378, 1379, 1380, 49]),
  (193, 2, 11, 233, [1382, 1383, 1384, 49]),
  (194, 0, 11, 226, [1366, 1367, 1368, 49]),
  (197, 5, 10, 130, [807, 808, 809, 38]),
  (201, 5, 11, 234, [1386, 1387, 1388, 49]),
  (202, 1, 10, 131, [816, 817, 818, 38]),
  (205, 1, 11, 236, [1390, 1391, 1392, 49]),
  (209, 1, 11, 237, [1397, 1398, 1399, 49])]
set_option maxRecDepth 100000 in
theorem lz_tab_ok : lz_tab.all lz_cok = true := by decide +kernel
theorem jm_wsum_ints (as : List Int32) : jm_wsum (as.map (fun x => (.inl x : jm_V))) = as.length := by
  induction as with
  | nil => rfl
  | cons x t ih =>
    have e : jm_wsum ((x :: t).map (fun x => (.inl x : jm_V))) = 1 + jm_wsum (t.map (fun x => (.inl x : jm_V))) := by simp [jm_wsum, jm_cat]
    rw [e, ih, List.length_cons]; omega
theorem jm_cv_ints (ad : jm_K → Nat) (as : List Int32) : (as.map (fun x => (.inl x : jm_V))).map (jm_cv ad) = as.map Value.int := by
  rw [List.map_map]; rfl
/-- the law's fresh cells, but its own row of one long -/
def lz_A (s : State) (qo : Nat) : Nat → Prop := fun q => s.heap.size ≤ q ∧ q ≠ qo
/-- what the tables say of the worlds' classes and rows -/
def lz_K (D : va_G) (cs : Nat → ClassId) (cl : ClassId) (s : State) : Prop := va_K D jm_cl0 (jm_ty cs) s ∧ (∀ w ∈ jm_N, va_Nw w s) ∧ va_K D jm_cl0 [(cl, .long)] s
/-- the law's world: the small machine's memory h, and its row of one long -/
def lz_W (D : va_G) (cs : Nat → ClassId) (cl : ClassId) (ad : jm_K → Nat) (qo : Nat) (s : State) (h : jm_M) (H : Heap) (locs : List Loc) : Prop :=
  va_P D jm_cl0 (jm_ws ad cs h) H ∧ va_D (lz_A s qo) (jm_ws ad cs h) ∧ (∃ f : Nat → Int64, va_at D jm_cl0 (qo, .inl (cl, 1, .inr (.inl f))) H) ∧ s.heap.size ≤ qo ∧ va_S (fun q : Nat => s.heap.size ≤ q) s.heap H locs
section LZ
variable {p : Program} {l : Launch} {e : Env} {s : State} {m : MethodId} {below : List Frame} {meth : Method} {c : Code} {H : Heap} {locs : List Loc} {cells slots : Nat} {Q : State → Prop}
variable {D : va_G} {cs : Nat → ClassId} {cl : ClassId} {ad : jm_K → Nat} {qo b L pc : Nat} {xs : Nat → Int32} {ls : Array Slot} {rest : List Value} {h h1 : jm_M}
theorem lz_hts (C0 : lw_At p s m meth c b L xs) : ∀ w ∈ jm_T, w.before #[Value.ref b] s = true := fun w hw => C0.2.2.2.2.2.1 w (List.mem_filter.mp hw).1
set_option maxHeartbeats 4000000 in
/-- a call of a small machine's method -/
theorem lz_call (C0 : lw_At p s m meth c b L xs) (K0 : lz_K D cs cl s) {idx n ci mi nn : Nat} {ps : List Nat} (hq : lz_cok (idx, n, ci, mi, ps) = true) {k0 : jm_K} (hk : k0 ∈ jm_ks) {fs : List (Option jm_K)} (hsh : jm_sh k0 = some (.inl (ci, fs)))
    {as : List Int32} (hn : as.length = n) {v : jm_V} (hv : jc_I v ∨ jc_L v) (hR : jm_Rn nn mi (jz_e mi k0 (as.map (fun x => .inl x)) h) (some v, h1)) (hd : decode code pc = .ok (.invokevirtual idx, 3)) (hsz : ls.size = 8) (hrest : (rest.map fun v => v.category).sum ≤ 8)
    (Wd : lz_W D cs cl ad qo s h H locs) (kk : ∀ (H1 : Heap) (locs1 : List Loc), lz_W D cs cl ad qo s h1 H1 locs1 → (∀ f : Nat → Int64, va_at D jm_cl0 (qo, .inl (cl, 1, .inr (.inl f))) H → va_at D jm_cl0 (qo, .inl (cl, 1, .inr (.inl f))) H1) → W p l e room_1 s m #[Value.ref b] below meth c H1 locs1 cells slots Q (F0 m (pc + 3) ls (jm_cv ad v :: rest)))
    (hroom : cells ≤ 601024 ∧ slots ≤ 7293034) : W p l e room_1 s m #[Value.ref b] below meth c H locs cells slots Q (F0 m pc ls ((as.map Value.int).reverse ++ .ref (ad k0) :: rest)) := by
  have hts := lz_hts C0
  obtain ⟨hx, hb, hr0, hml, hown, -, hX, hbl, hlocks, hgv⟩ := C0
  obtain ⟨hP, hD, hO, hqo, hS⟩ := Wd
  unfold lz_cok at hq
  dsimp only at hq
  cases hr : jm_mt[mi]? with
  | none => rw [hr] at hq; cases hq
  | some r =>
    rw [hr] at hq
    simp only [Bool.and_eq_true, decide_eq_true_eq] at hq
    obtain ⟨⟨⟨hw, hf1⟩, hf2⟩, hf3⟩ := hq
    unfold jm_cok1 at hw
    rw [Bool.and_eq_true] at hw
    obtain ⟨hpar, hw⟩ := hw
    obtain ⟨q0, hq0, hq1⟩ := jm_ws_get (ad := ad) (cs := cs) (h := h) hk
    obtain ⟨q, hq, -, -⟩ := jm_obj hk hsh
    rw [hsh] at hq1
    have hnm : jm_nm ci = q.1 := by unfold jm_nm; rw [hq]
    split at hw
    · rename_i hkd; exact absurd hkd (by decide)
    · rename_i hkd; exact absurd hkd (by decide)
    · rename_i a1 a2 a3 a4 _
      simp only [Bool.and_eq_true, decide_eq_true_eq] at hw
      obtain ⟨⟨⟨⟨h1w, h2w⟩, h3w⟩, h4w⟩, h5w⟩ := hw
      have h3w := jm_at_T h3w
      rw [hnm] at h3w
      have hok : jm_oks ((.inr (.inr k0) : jm_V) :: as.map (fun x => .inl x)) := by
        intro v hv
        rcases List.mem_cons.mp hv with rfl | hv
        · exact hk
        · obtain ⟨x, -, rfl⟩ := List.mem_map.mp hv; trivial
      have hsz2 : jm_wsum ((.inr (.inr k0) : jm_V) :: as.map (fun x => .inl x)) ≤ r.2.2.1 := by
        have e1 : jm_wsum ((.inr (.inr k0) : jm_V) :: as.map (fun x => (.inl x : jm_V))) = 1 + jm_wsum (as.map (fun x => (.inl x : jm_V))) := by simp [jm_wsum, jm_cat]
        rw [e1, jm_wsum_ints, hn]; omega
      have hM := jm_met (jm_run_W nn) hr hR hok hsz2 l D (lz_A s qo) ad cs
      have hrun : va_Run p l e room_1 s m #[Value.ref b] below meth c H locs cells slots 0 0 (F0 m pc ls ((as.map Value.int).reverse ++ .ref (ad k0) :: rest)) rest (jm_Q D (lz_A s qo) ad cs (some v, h1) (Value.ref (ad k0) :: as.map Value.int).toArray) (lz_A s qo) := by
        have hM2 : Met l r.1 (jm_wsM r) (jm_R r) (va_Pc (Value.ref (ad k0) :: as.map Value.int) (jm_Wd D (lz_A s qo) ad cs h)) (jm_Q D (lz_A s qo) ad cs (some v, h1)) 0 0 (lz_A s qo) := by
          have e2 : ((.inr (.inr k0) : jm_V) :: as.map (fun x => .inl x)).map (jm_cv ad) = Value.ref (ad k0) :: as.map Value.int := by rw [List.map_cons, jm_cv_ints]; rfl
          rw [← e2]; exact hM
        exact va_runV (C := q.1) ⟨hx, hb, hml, hown, hts⟩ hM2 ⟨callB_of n hts (jm_good hr) rfl rfl rfl (hts _ (jm_at_T h4w)) (hts _ (jm_at_T h1w)) (jm_par_spec hpar) ⟨hf1, hf2⟩, hts _ (jm_at_T h2w), hts _ h3w⟩ ⟨jm_blind, va_recv K0.1 hP hq hq1, fun U hU hW => ⟨rfl, by rw [hU]; exact hP, va_K.moved hW.alike K0.1, hD, jm_N_warm hW K0.2.1⟩⟩ rfl (by rw [List.length_map]; exact hn) hsz rfl (lv_room hrest) hd hroom
      have hA1 : ∀ q : Nat, q < H.size → lz_A s qo q → s.heap.size ≤ q := fun q _ h => h.1
      have hA2 : ∀ q : Nat, lz_A s qo q → s.heap.size ≤ q := fun q h => h.1
      have hqn : ¬ lz_A s qo qo := fun z => z.2 rfl
      obtain ⟨f, hO⟩ := hO
      have hOl := hO.lt
      rcases hv with ⟨x, rfl⟩ | ⟨x, rfl⟩
      · refine va_calli (a := (Value.ref (ad k0) :: as.map Value.int).toArray) hrun hS hA1 hA2 (fun y u t H1 locs1 ht _ hp hB hz1 hk1 hS' => ?_)
        obtain ⟨hP1, -, hD1, -⟩ := hB
        obtain ⟨rfl, rfl⟩ := hp
        subst ht
        exact kk _ _ ⟨hP1, hD1, ⟨f, hO.kept (hk1 qo hOl hqn)⟩, hqo, hS'⟩ (fun f2 hO2 => hO2.kept (hk1 qo hOl hqn))
      · refine va_calll (a := (Value.ref (ad k0) :: as.map Value.int).toArray) hrun hS hA1 hA2 (fun y u t H1 locs1 ht _ hp hB hz1 hk1 hS' => ?_)
        obtain ⟨hP1, -, hD1, -⟩ := hB
        obtain ⟨rfl, rfl⟩ := hp
        subst ht
        exact kk _ _ ⟨hP1, hD1, ⟨f, hO.kept (hk1 qo hOl hqn)⟩, hqo, hS'⟩ (fun f2 hO2 => hO2.kept (hk1 qo hOl hqn))
    · rename_i hkd; exact absurd hkd (by decide)
    · rename_i hkd; exact absurd hkd (by decide)
    · cases hw
/-! pushing arguments -/
def lz_dec (pc : Nat) (i : Instr) (n : Nat) : Bool := decide (decode code pc = .ok (i, n))
def lz_arg (pc k : Nat) : Bool := lz_dec pc (.aload_n 0) 1 && lz_dec (pc + 1) (.iload 4) 2 && lz_dec (pc + 3) (.iconst (k : Int)) 1 && lz_dec (pc + 4) .iadd 1 && lz_dec (pc + 5) .iaload 1
def lz_args (pc k : Nat) : Nat → Bool
  | 0 => true
  | n + 1 => lz_arg pc k && lz_args (pc + 6) (k + 1) n
def lz_as (xs : Nat → Int32) (i k : Nat) : Nat → List Int32
  | 0 => []
  | n + 1 => xs (i + k) :: lz_as xs i (k + 1) n
theorem lz_as_len {xs : Nat → Int32} {i : Nat} : ∀ {n k : Nat}, (lz_as xs i k n).length = n
  | 0, _ => rfl
  | n + 1, k => by show (lz_as xs i (k + 1) n).length + 1 = n + 1; rw [lz_as_len]
def lz_L (ad : jm_K → Nat) (b qo i : Nat) : List (Nat × Value) := [(0, .ref b), (1, .ref (ad (0, 0, 0))), (2, .ref (ad (4, 0, 0))), (3, .ref qo), (4, .int (nI i))]
theorem lz_d {pc n : Nat} {i : Instr} (h : lz_dec pc i n = true) : decode code pc = .ok (i, n) := of_decide_eq_true h
theorem lz_ofI (k : Nat) : Int32.ofInt (k : Int) = nI k := rfl
theorem lz_push (C0 : lw_At p s m meth c b L xs) (hL : L ≤ 3072) {i : Nat} (hl : lv_has ls 8 (lz_L ad b qo i)) (hS : va_S (fun q : Nat => s.heap.size ≤ q) s.heap H locs) : ∀ (n k pc : Nat) (st : List Value), lz_args pc k n = true → i + k + n ≤ L →
    W p l e room_1 s m #[Value.ref b] below meth c H locs cells slots Q (F0 m (pc + 6 * n) ls (((lz_as xs i k n).map Value.int).reverse ++ st)) → W p l e room_1 s m #[Value.ref b] below meth c H locs cells slots Q (F0 m pc ls st) := by
  intro n
  induction n with
  | zero =>
    intro k pc st _ _ kk
    rw [show pc + 6 * 0 = pc by omega, show ((lz_as xs i k 0).map Value.int).reverse ++ st = st from rfl] at kk
    exact kk
  | succ n ih =>
    intro k pc st hc hi kk
    obtain ⟨hx, hb, hr0, hml, hown, -, hX, hbl, hlocks, hgv⟩ := id C0
    have hbA : ¬ (fun q : Nat => s.heap.size ≤ q) b := Nat.not_le.mpr hbl
    unfold lz_args lz_arg at hc
    simp only [Bool.and_eq_true] at hc
    obtain ⟨⟨⟨⟨⟨c1, c2⟩, c3⟩, c4⟩, c5⟩, c6⟩ := hc
    refine lv_aload_n hx hb (lz_d c1) rfl (lv_at hl 0 rfl) ?_
    refine lv_iload hx hb (lz_d c2) (lv_at hl 4 rfl) ?_
    refine lv_iconst (v := nI k) hx hb (lz_d c3) (lz_ofI k) ?_
    refine lv_iadd hx hb (lz_d c4) ?_
    rw [show nI i + nI k = nI (i + k) from nI_add _ _]
    refine va_sld hx hb hX hbl hbA hS (i := nI (i + k)) (vp_in_nI (by omega) (by omega)) (lz_d c5) ?_
    rw [nI_clamp (by omega)]
    refine ih (k + 1) (pc + 6) (.int (xs (i + k)) :: st) c6 (by omega) ?_
    have e1 : pc + 6 * (n + 1) = pc + 6 + 6 * n := by omega
    have e2 : ((lz_as xs i k (n + 1)).map Value.int).reverse ++ st = ((lz_as xs i (k + 1) n).map Value.int).reverse ++ (.int (xs (i + k)) :: st) := by
      show ((Value.int (xs (i + k))) :: (lz_as xs i (k + 1) n).map Value.int).reverse ++ st = _
      rw [List.reverse_cons, List.append_assoc]; rfl
    rw [e1, e2] at kk
    exact kk
/-! a case of the law's switch -/
def lz_chk (pc n i1 i2 : Nat) (ll : Bool) : Bool := lz_dec pc (.aload_n 1) 1 && lz_args (pc + 1) 1 n && lz_dec (pc + 1 + 6 * n) (.invokevirtual i1) 3 && lz_dec (pc + 4 + 6 * n) (.aload_n 2) 1 && lz_args (pc + 5 + 6 * n) 1 n && lz_dec (pc + 5 + 12 * n) (.invokevirtual i2) 3 &&
  (if ll = true then lz_dec (pc + 8 + 12 * n) .lcmp 1 && lz_dec (pc + 9 + 12 * n) (.ifCond .eq ((1820 : Int) - (pc + 9 + 12 * n : Nat))) 3 else lz_dec (pc + 8 + 12 * n) (.if_icmp .eq ((1820 : Int) - (pc + 8 + 12 * n : Nat))) 3)
set_option maxHeartbeats 4000000 in
theorem lz_case (C0 : lw_At p s m meth c b L xs) (K0 : lz_K D cs cl s) (hL : L ≤ 3072) {i : Nat} (hi : i + 6 ≤ L) (hl : lv_has ls 8 (lz_L ad b qo i)) (Wd : lz_W D cs cl ad qo s h H locs) (J : jz h) {pc n i1 i2 mc mr : Nat} {p1 p2 : List Nat} {ll : Bool} (hn : n ≤ 5) (hc : lz_chk pc n i1 i2 ll = true) (q1 : lz_cok (i1, n, 10, mc, p1) = true) (q2 : lz_cok (i2, n, 11, mr, p2) = true)
    (hJ : jc_ok (if ll = true then jc_L else jc_I) mc mr ((lz_as xs i 1 n).map (fun x => .inl x))) (hroom : cells ≤ 601024 ∧ slots ≤ 7293034)
    (kk : ∀ (h2 : jm_M) (H1 : Heap) (locs1 : List Loc), jz h2 → lz_W D cs cl ad qo s h2 H1 locs1 → W p l e room_1 s m #[Value.ref b] below meth c H1 locs1 cells slots Q (F0 m 1820 ls [])) : W p l e room_1 s m #[Value.ref b] below meth c H locs cells slots Q (F0 m pc ls []) := by
  obtain ⟨hx, hb, hr0, hml, hown, -, hX, hbl, hlocks, hgv⟩ := id C0
  unfold lz_chk at hc
  simp only [Bool.and_eq_true] at hc
  obtain ⟨⟨⟨⟨⟨⟨c1, c2⟩, c3⟩, c4⟩, c5⟩, c6⟩, c7⟩ := hc
  obtain ⟨v, m1, m2, n1, n2, hv, r1, r2, J2⟩ := hJ h J
  have hv2 : jc_I v ∨ jc_L v := by
    cases ll with
    | true => exact Or.inr hv
    | false => exact Or.inl hv
  refine lv_aload_n hx hb (lz_d c1) rfl (lv_at hl 1 rfl) ?_
  refine lz_push C0 hL hl Wd.2.2.2.2 n 1 (pc + 1) [.ref (ad (0, 0, 0))] c2 (by omega) ?_
  refine lz_call (h1 := m1) C0 K0 q1 (k0 := (0, 0, 0)) (by decide) rfl lz_as_len hv2 r1 (lz_d c3) hl.1 (by decide) Wd (fun H1 locs1 Wd1 _ => ?_) hroom
  rw [show pc + 1 + 6 * n + 3 = pc + 4 + 6 * n by omega]
  refine lv_aload_n hx hb (lz_d c4) rfl (lv_at hl 2 rfl) ?_
  rw [show pc + 4 + 6 * n + 1 = pc + 5 + 6 * n by omega]
  refine lz_push C0 hL hl Wd1.2.2.2.2 n 1 (pc + 5 + 6 * n) [.ref (ad (4, 0, 0)), jm_cv ad v] c5 (by omega) ?_
  rw [show pc + 5 + 6 * n + 6 * n = pc + 5 + 12 * n by omega]
  refine lz_call (h1 := m2) C0 K0 q2 (k0 := (4, 0, 0)) (by decide) rfl lz_as_len hv2 r2 (lz_d c6) hl.1 (by rcases hv2 with ⟨x, rfl⟩ | ⟨x, rfl⟩ <;> exact Nat.le_of_ble_eq_true rfl) Wd1 (fun H2 locs2 Wd2 _ => ?_) hroom
  rw [show pc + 5 + 12 * n + 3 = pc + 8 + 12 * n by omega]
  cases ll with
  | true =>
    obtain ⟨x, rfl⟩ := hv
    rw [if_pos rfl, Bool.and_eq_true] at c7
    refine W.lcmp hx hb (x := x) (y := x) (lz_d c7.1) ?_
    rw [show pc + 8 + 12 * n + 1 = pc + 9 + 12 * n by omega]
    exact lv_if_eq (tgt := 1820) hx hb (lz_d c7.2) (by omega) (fun _ => kk m2 H2 locs2 J2 Wd2) (fun z => absurd ((lg_cmp_eq x x).mpr rfl) z)
  | false =>
    obtain ⟨x, rfl⟩ := hv
    rw [if_neg (by decide)] at c7
    exact lv_icmp_eq (x := x) (y := x) (tgt := 1820) hx hb (lz_d c7) (by omega) (fun _ => kk m2 H2 locs2 J2 Wd2) (fun z => absurd rfl z)
end LZ
