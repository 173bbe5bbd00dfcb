/-! THE FACE: the best of several. -/
theorem nI_nn4 {w : Nat} (h : w < 2 ^ 31) : ¬ nI w = (-4) := fun e => nI_neg h (by rw [e]; decide)
/-- of F's numbers below n the least, of several the first: where, which -/
def sp_bst (F : Nat → Option Nat) : Nat → Option (Nat × Nat)
  | 0 => none
  | k + 1 => match F k, sp_bst F k with
    | none, q => q
    | some w, none => some (k, w)
    | some w, some q => if w < q.2 then some (k, w) else some q
theorem sp_bst_none {F : Nat → Option Nat} {k : Nat} (h : F k = none) : sp_bst F (k + 1) = sp_bst F k := by
  show (match F k, sp_bst F k with
    | none, q => q
    | some w, none => some (k, w)
    | some w, some q => if w < q.2 then some (k, w) else some q) = _
  rw [h]
theorem sp_bst_first {F : Nat → Option Nat} {k w : Nat} (h : F k = some w) (hb : sp_bst F k = none) : sp_bst F (k + 1) = some (k, w) := by
  show (match F k, sp_bst F k with
    | none, q => q
    | some w, none => some (k, w)
    | some w, some q => if w < q.2 then some (k, w) else some q) = _
  rw [h, hb]
theorem sp_bst_less {F : Nat → Option Nat} {k w b v : Nat} (h : F k = some w) (hb : sp_bst F k = some (b, v)) (hl : w < v) : sp_bst F (k + 1) = some (k, w) := by
  show (match F k, sp_bst F k with
    | none, q => q
    | some w, none => some (k, w)
    | some w, some q => if w < q.2 then some (k, w) else some q) = _
  rw [h, hb]
  exact if_pos hl
theorem sp_bst_ge {F : Nat → Option Nat} {k w b v : Nat} (h : F k = some w) (hb : sp_bst F k = some (b, v)) (hl : ¬ w < v) : sp_bst F (k + 1) = some (b, v) := by
  show (match F k, sp_bst F k with
    | none, q => q
    | some w, none => some (k, w)
    | some w, some q => if w < q.2 then some (k, w) else some q) = _
  rw [h, hb]
  exact if_neg hl
theorem sp_bst_sp {F : Nat → Option Nat} : ∀ n, match sp_bst F n with
    | none => ∀ k, k < n → F k = none
    | some q => q.1 < n ∧ F q.1 = some q.2 ∧ (∀ k w, k < n → F k = some w → q.2 ≤ w) ∧ ∀ k w, k < q.1 → F k = some w → q.2 < w := by
  intro n
  induction n with
  | zero => intro k hk; omega
  | succ n ih =>
    rcases ew : F n with _ | w
    · rw [sp_bst_none ew]
      rcases eb : sp_bst F n with _ | ⟨b, v⟩
      · rw [eb] at ih
        intro k hk
        by_cases e : k = n
        · rw [e]; exact ew
        · exact ih k (by omega)
      · rw [eb] at ih
        obtain ⟨h1, h2, h3, h4⟩ := ih
        refine ⟨by dsimp only at h1 ⊢; omega, h2, fun k w hk e => ?_, h4⟩
        by_cases e2 : k = n
        · rw [e2, ew] at e; cases e
        · exact h3 k w (by omega) e
    · rcases eb : sp_bst F n with _ | ⟨b, v⟩
      · rw [sp_bst_first ew eb]
        rw [eb] at ih
        refine ⟨by dsimp only; omega, ew, fun k x hk e => ?_, fun k x hk e => ?_⟩
        · by_cases e2 : k = n
          · rw [e2, ew] at e; cases e; exact Nat.le_refl _
          · rw [ih k (by omega)] at e; cases e
        · rw [ih k hk] at e; cases e
      · rw [eb] at ih
        obtain ⟨h1, h2, h3, h4⟩ := ih
        dsimp only at h1 h2 h3 h4
        by_cases hl : w < v
        · rw [sp_bst_less ew eb hl]
          refine ⟨by dsimp only; omega, ew, fun k x hk e => ?_, fun k x hk e => ?_⟩
          · by_cases e2 : k = n
            · rw [e2, ew] at e; cases e; exact Nat.le_refl _
            · have := h3 k x (by omega) e; dsimp only; omega
          · have := h3 k x hk e; dsimp only; omega
        · rw [sp_bst_ge ew eb hl]
          refine ⟨by dsimp only; omega, h2, fun k x hk e => ?_, h4⟩
          by_cases e2 : k = n
          · rw [e2, ew] at e; cases e; dsimp only; omega
          · exact h3 k x (by omega) e
theorem sp_bst_lt {F : Nat → Option Nat} {n b v M : Nat} (h : ∀ k w, F k = some w → w < M) (e : sp_bst F n = some (b, v)) : b < n ∧ v < M := by
  have := sp_bst_sp (F := F) n
  rw [e] at this
  exact ⟨this.1, h _ _ this.2.1⟩
def jfar : Option (Nat × Nat) → Int32
  | none => 1000000000
  | some q => nI q.2
def jo1 (q : Option (Nat × Nat)) : Int32 := jo (q.map Prod.fst)
def jo2 (q : Option (Nat × Nat)) : Int32 := jo (q.map Prod.snd)
/-- the name of man p on cat c -/
def sp_nm (g : Nat → Nat) (c p : Nat) : Nat → Nat := sp_up (sp_up g (40 + 5 * c) p) (39 + 5 * c) 0
def sp_wr (g : Nat → Nat) (p c : Nat) : Option Nat := sp_till (sp_nm g c p) p
def sp_af (g : Nat → Nat) (k v : Nat) : Nat → Nat := sp_up g (4 + k) (min 9 (g (4 + k) + v))
def sp_pf (g : Nat → Nat) (c p v k : Nat) : Option Nat := sp_tat (sp_af g k v) c p
theorem jw_nm_ {g : Nat → Nat} (W : jw g) {c p : Nat} (hc : c < 6) (hp : p = 9 ∨ p < g 1) : jw (sp_nm g c p) := jw_up_hair (jw_up_name W hc hp) hc (by omega)
theorem sp_nm_ne {g : Nat → Nat} {c p i : Nat} (h : i < 36) : sp_nm g c p i = g i := by unfold sp_nm; rw [sp_up_ne (by omega), sp_up_ne (by omega)]
theorem jw_af {g : Nat → Nat} (W : jw g) {k v : Nat} (hk : k < 16) : jw (sp_af g k v) := jw_up_fish W hk (by omega)
theorem sp_af_ne {g : Nat → Nat} {k v i : Nat} (h : i < 4) : sp_af g k v i = g i := by unfold sp_af; rw [sp_up_ne (by omega)]
theorem sp_wr_lt {g : Nat → Nat} {p c w : Nat} (e : sp_wr g p c = some w) : w < 100 := sp_till_lt e
theorem sp_pf_lt {g : Nat → Nat} {c p v k w : Nat} (e : sp_pf g c p v k = some w) : w < 100 := sp_tat_lt e
set_option maxHeartbeats 4000000 in
set_option maxRecDepth 20000 in
theorem ca_tillBy {h : jm_M} {g : Nat → Nat} (R : jf_rel h 0 g) (W : jw g) {p c : Nat} (hp : p < g 1) (hc : c < g 0) : jt_T 92 (0, [(0, .inr (.inr (0, 0, 0))), (1, .inl (nI p)), (2, .inl (nI c))], [], h) (fun u h' => u = some (.inl (jo (sp_wr g p c))) ∧ jf_fr 1 h h') := by
  have bn := jw_n W
  have bm := jw_m W
  have bt := jw_t W
  refine jt_go jm_m92 0 4 (f' := (8, [(0, .inr (.inr (0, 0, 0))), (1, .inl (nI p)), (2, .inl (nI c))], [.inr (.inr (2, 0, 0)), .inr (.inr (2, 1, 0))], h)) (P := True) rfl trivial ?_
  refine jt_call jm_m92 4 (mi' := 6) (as := [.inr (.inr (2, 1, 0)), .inr (.inr (2, 0, 0))]) (rest := []) (nxt := 11) rfl rfl jm_m6 rfl rfl (ta_becomes R W (by decide)) ?_
  rintro u h1 ⟨rfl, Rh1, Fh1⟩
  show jt_T 92 (11, [(0, .inr (.inr (0, 0, 0))), (1, .inl (nI p)), (2, .inl (nI c))], [], h1) _
  have Rh1 : jf_rel h1 1 g := Rh1
  have Wh1 : jw (g) := W
  have Zh1 := jf_mov0 R Fh1
  refine jt_go jm_m92 5 4 (f' := (17, [(0, .inr (.inr (0, 0, 0))), (1, .inl (nI p)), (2, .inl (nI c))], [.inl (nI p), .inl (nI c), .inr (.inr (2, 1, 0))], h1)) (P := True) rfl trivial ?_
  refine jt_call jm_m92 9 (mi' := 15) (as := [.inr (.inr (2, 1, 0)), .inl (nI c), .inl (nI p)]) (rest := []) (nxt := 20) rfl rfl jm_m15 rfl rfl (ta_name Rh1 Wh1 (by omega)) ?_
  rintro u h2 ⟨rfl, Rh2, Fh2⟩
  show jt_T 92 (20, [(0, .inr (.inr (0, 0, 0))), (1, .inl (nI p)), (2, .inl (nI c))], [], h2) _
  have Rh2 : jf_rel h2 1 (sp_nm g c p) := Rh2
  have Wh2 : jw (sp_nm g c p) := jw_nm_ Wh1 (by omega) (Or.inr hp)
  have Zh2 := jf_mov0 Zh1 Fh2
  have Fh2 := jf_fr_tr Fh1 Fh2
  refine jt_go jm_m92 10 2 (f' := (22, [(0, .inr (.inr (0, 0, 0))), (1, .inl (nI p)), (2, .inl (nI c))], [.inl (nI p), .inr (.inr (0, 0, 0))], h2)) (P := True) rfl trivial ?_
  refine jt_call jm_m92 12 (mi' := 89) (as := [.inr (.inr (0, 0, 0)), .inl (nI p)]) (rest := []) (nxt := 25) rfl rfl jm_m89 rfl rfl (ca_till Rh2 Wh2 (by rw [sp_nm_ne (by decide)]; exact hp)) ?_
  rintro u h3 ⟨rfl, Fh3⟩
  show jt_T 92 (25, [(0, .inr (.inr (0, 0, 0))), (1, .inl (nI p)), (2, .inl (nI c))], [.inl (jo (sp_wr g p c))], h3) _
  have Zh3 := jf_mov0 Zh2 Fh3
  have Fh3 := jf_fr_tr Fh2 Fh3
  refine jt_iret jm_m92 13 rfl ?_
  exact ⟨rfl, Fh3⟩
set_option maxHeartbeats 4000000 in
set_option maxRecDepth 20000 in
theorem ca_wr_l {h : jm_M} {g : Nat → Nat} (W : jw g) {p z : Nat} (hp : p < g 1) (hz : z ≤ 1) : ∀ k, k ≤ g 0 → ∀ hm : jm_M, (jf_rel hm 0 g) → (jf_fr 1 h hm) → jt_T 91 (46, [(0, .inr (.inr (0, 0, 0))), (1, .inl (nI p)), (2, .inl (nI z)), (3, .inl (jo1 (sp_bst (sp_wr g p) k))), (4, .inl (jo2 (sp_bst (sp_wr g p) k))), (5, .inl (nI k))], [], hm) (fun u h' => u = some (.inl (if z = 0 then jo1 (sp_bst (sp_wr g p) (g 0)) else jo2 (sp_bst (sp_wr g p) (g 0)))) ∧ jf_fr 1 h h') := jx_up (P := fun k => ∀ hm : jm_M, (jf_rel hm 0 g) → (jf_fr 1 h hm) → jt_T 91 (46, [(0, .inr (.inr (0, 0, 0))), (1, .inl (nI p)), (2, .inl (nI z)), (3, .inl (jo1 (sp_bst (sp_wr g p) k))), (4, .inl (jo2 (sp_bst (sp_wr g p) k))), (5, .inl (nI k))], [], hm) (fun u h' => u = some (.inl (if z = 0 then jo1 (sp_bst (sp_wr g p) (g 0)) else jo2 (sp_bst (sp_wr g p) (g 0)))) ∧ jf_fr 1 h h')) (fun k hk nx hm Zm Fm => by
  have bn := jw_n W
  have bm := jw_m W
  have bt := jw_t W
  rcases eb : sp_bst (sp_wr g p) k with _ | ⟨b, v⟩
  · skip
    show jt_T 91 (46, [(0, .inr (.inr (0, 0, 0))), (1, .inl (nI p)), (2, .inl (nI z)), (3, .inl ((-4))), (4, .inl ((-4))), (5, .inl (nI k))], [], hm) _
    refine jt_go jm_m91 25 4 (f' := (55, [(0, .inr (.inr (0, 0, 0))), (1, .inl (nI p)), (2, .inl (nI z)), (3, .inl ((-4))), (4, .inl ((-4))), (5, .inl (nI k))], [.inl (hm (2, 0, 0) 9), .inl (nI k)], hm)) (P := True) rfl trivial ?_
    refine jt_ti (show (hm (2, 0, 0) 9) = nI (g 0) from jf_cats Zm) ?_
    have bq1 := jw_n W
    refine jt_nicge jm_m91 29 (a := k) (b := g 0) (by omega) (by omega) (tgt := 100) (nxt := 58) rfl rfl rfl (fun c55 => ?_) (fun c55 => ?_)
    · refine jt_go jm_m91 50 1 (f' := (101, [(0, .inr (.inr (0, 0, 0))), (1, .inl (nI p)), (2, .inl (nI z)), (3, .inl ((-4))), (4, .inl ((-4))), (5, .inl (nI k))], [.inl (nI z)], hm)) (P := True) rfl trivial ?_
      refine jt_nifne jm_m91 51 (by omega) (tgt := 108) (nxt := 104) rfl rfl rfl (fun c101 => ?_) (fun c101 => ?_)
      · refine jt_go jm_m91 54 1 (f' := (110, [(0, .inr (.inr (0, 0, 0))), (1, .inl (nI p)), (2, .inl (nI z)), (3, .inl ((-4))), (4, .inl ((-4))), (5, .inl (nI k))], [.inl ((-4))], hm)) (P := True) rfl trivial ?_
        refine jt_iret jm_m91 55 rfl ?_
        have e : k = g 0 := by omega
        subst e
        refine ⟨jt_li ?_, Fm⟩
        rw [eb]
        first | (rw [if_pos (by assumption)]; rfl) | (rw [if_neg (by assumption)]; rfl) | (split <;> rfl)
      · refine jt_go jm_m91 52 2 (f' := (110, [(0, .inr (.inr (0, 0, 0))), (1, .inl (nI p)), (2, .inl (nI z)), (3, .inl ((-4))), (4, .inl ((-4))), (5, .inl (nI k))], [.inl ((-4))], hm)) (P := True) rfl trivial ?_
        refine jt_iret jm_m91 55 rfl ?_
        have e : k = g 0 := by omega
        subst e
        refine ⟨jt_li ?_, Fm⟩
        rw [eb]
        first | (rw [if_pos (by assumption)]; rfl) | (rw [if_neg (by assumption)]; rfl) | (split <;> rfl)
    · refine jt_go jm_m91 30 3 (f' := (62, [(0, .inr (.inr (0, 0, 0))), (1, .inl (nI p)), (2, .inl (nI z)), (3, .inl ((-4))), (4, .inl ((-4))), (5, .inl (nI k))], [.inl (nI k), .inl (nI p), .inr (.inr (0, 0, 0))], hm)) (P := True) rfl trivial ?_
      refine jt_call jm_m91 33 (mi' := 92) (as := [.inr (.inr (0, 0, 0)), .inl (nI p), .inl (nI k)]) (rest := []) (nxt := 65) rfl rfl jm_m92 rfl rfl (ca_tillBy Zm W hp (by omega)) ?_
      rintro u h1 ⟨rfl, Fh1⟩
      show jt_T 91 (65, [(0, .inr (.inr (0, 0, 0))), (1, .inl (nI p)), (2, .inl (nI z)), (3, .inl ((-4))), (4, .inl ((-4))), (5, .inl (nI k))], [.inl (jo (sp_wr g p k))], h1) _
      have Zh1 := jf_mov0 Zm Fh1
      have Fh1 := jf_fr_tr Fm Fh1
      rcases ew : sp_wr g p k with _ | w
      · show jt_T 91 (65, [(0, .inr (.inr (0, 0, 0))), (1, .inl (nI p)), (2, .inl (nI z)), (3, .inl ((-4))), (4, .inl ((-4))), (5, .inl (nI k))], [.inl ((-4))], h1) _
        refine jt_go jm_m91 34 3 (f' := (71, [(6, .inl ((-4))), (0, .inr (.inr (0, 0, 0))), (1, .inl (nI p)), (2, .inl (nI z)), (3, .inl ((-4))), (4, .inl ((-4))), (5, .inl (nI k))], [.inl ((-4)), .inl ((-4))], h1)) (P := True) rfl trivial ?_
        refine jt_iceq jm_m91 37 (tgt := 94) (nxt := 74) rfl rfl rfl (fun c71 => ?_) (fun c71 => ?_)
        · refine jt_inc jm_m91 48 (c := k) (L' := [(5, .inl (nI (k + 1))), (6, .inl ((-4))), (0, .inr (.inr (0, 0, 0))), (1, .inl (nI p)), (2, .inl (nI z)), (3, .inl ((-4))), (4, .inl ((-4)))]) rfl rfl rfl rfl ?_
          refine jt_go jm_m91 49 1 (f' := (46, [(5, .inl (nI (k + 1))), (6, .inl ((-4))), (0, .inr (.inr (0, 0, 0))), (1, .inl (nI p)), (2, .inl (nI z)), (3, .inl ((-4))), (4, .inl ((-4)))], [], h1)) (P := True) rfl trivial ?_
          refine jt_pick (L' := [(0, .inr (.inr (0, 0, 0))), (1, .inl (nI p)), (2, .inl (nI z)), (3, .inl ((-4))), (4, .inl ((-4))), (5, .inl (nI (k + 1)))]) [2, 3, 4, 5, 6, 0] rfl ?_
          have e := sp_bst_none ew
          have q := nx (by omega) h1 Zh1 Fh1
          rw [e, eb] at q
          exact q
        · exact absurd c71 (by decide)
      · show jt_T 91 (65, [(0, .inr (.inr (0, 0, 0))), (1, .inl (nI p)), (2, .inl (nI z)), (3, .inl ((-4))), (4, .inl ((-4))), (5, .inl (nI k))], [.inl (nI w)], h1) _
        have hw := sp_wr_lt ew
        refine jt_go jm_m91 34 3 (f' := (71, [(6, .inl (nI w)), (0, .inr (.inr (0, 0, 0))), (1, .inl (nI p)), (2, .inl (nI z)), (3, .inl ((-4))), (4, .inl ((-4))), (5, .inl (nI k))], [.inl ((-4)), .inl (nI w)], h1)) (P := True) rfl trivial ?_
        refine jt_iceq jm_m91 37 (tgt := 94) (nxt := 74) rfl rfl rfl (fun c71 => ?_) (fun c71 => ?_)
        · exact absurd c71 (nI_nn4 (by omega))
        · refine jt_go jm_m91 38 2 (f' := (77, [(6, .inl (nI w)), (0, .inr (.inr (0, 0, 0))), (1, .inl (nI p)), (2, .inl (nI z)), (3, .inl ((-4))), (4, .inl ((-4))), (5, .inl (nI k))], [.inl ((-4)), .inl ((-4))], h1)) (P := True) rfl trivial ?_
          refine jt_iceq jm_m91 40 (tgt := 87) (nxt := 80) rfl rfl rfl (fun c77 => ?_) (fun c77 => ?_)
          · refine jt_go jm_m91 44 4 (f' := (94, [(4, .inl (nI w)), (3, .inl (nI k)), (6, .inl (nI w)), (0, .inr (.inr (0, 0, 0))), (1, .inl (nI p)), (2, .inl (nI z)), (5, .inl (nI k))], [], h1)) (P := True) rfl trivial ?_
            refine jt_inc jm_m91 48 (c := k) (L' := [(5, .inl (nI (k + 1))), (4, .inl (nI w)), (3, .inl (nI k)), (6, .inl (nI w)), (0, .inr (.inr (0, 0, 0))), (1, .inl (nI p)), (2, .inl (nI z))]) rfl rfl rfl rfl ?_
            refine jt_go jm_m91 49 1 (f' := (46, [(5, .inl (nI (k + 1))), (4, .inl (nI w)), (3, .inl (nI k)), (6, .inl (nI w)), (0, .inr (.inr (0, 0, 0))), (1, .inl (nI p)), (2, .inl (nI z))], [], h1)) (P := True) rfl trivial ?_
            refine jt_pick (L' := [(0, .inr (.inr (0, 0, 0))), (1, .inl (nI p)), (2, .inl (nI z)), (3, .inl (nI k)), (4, .inl (nI w)), (5, .inl (nI (k + 1)))]) [4, 5, 6, 2, 1, 0] rfl ?_
            have e := sp_bst_first ew eb
            have q := nx (by omega) h1 Zh1 Fh1
            rw [e] at q
            exact q
          · exact absurd c77 (by decide)
  · have hb := sp_bst_lt (M := 100) (fun i x e => sp_wr_lt e) eb
    have hb1 := hb.1
    have hb2 := hb.2
    show jt_T 91 (46, [(0, .inr (.inr (0, 0, 0))), (1, .inl (nI p)), (2, .inl (nI z)), (3, .inl (nI b)), (4, .inl (nI v)), (5, .inl (nI k))], [], hm) _
    refine jt_go jm_m91 25 4 (f' := (55, [(0, .inr (.inr (0, 0, 0))), (1, .inl (nI p)), (2, .inl (nI z)), (3, .inl (nI b)), (4, .inl (nI v)), (5, .inl (nI k))], [.inl (hm (2, 0, 0) 9), .inl (nI k)], hm)) (P := True) rfl trivial ?_
    refine jt_ti (show (hm (2, 0, 0) 9) = nI (g 0) from jf_cats Zm) ?_
    have bq1 := jw_n W
    refine jt_nicge jm_m91 29 (a := k) (b := g 0) (by omega) (by omega) (tgt := 100) (nxt := 58) rfl rfl rfl (fun c55 => ?_) (fun c55 => ?_)
    · refine jt_go jm_m91 50 1 (f' := (101, [(0, .inr (.inr (0, 0, 0))), (1, .inl (nI p)), (2, .inl (nI z)), (3, .inl (nI b)), (4, .inl (nI v)), (5, .inl (nI k))], [.inl (nI z)], hm)) (P := True) rfl trivial ?_
      refine jt_nifne jm_m91 51 (by omega) (tgt := 108) (nxt := 104) rfl rfl rfl (fun c101 => ?_) (fun c101 => ?_)
      · refine jt_go jm_m91 54 1 (f' := (110, [(0, .inr (.inr (0, 0, 0))), (1, .inl (nI p)), (2, .inl (nI z)), (3, .inl (nI b)), (4, .inl (nI v)), (5, .inl (nI k))], [.inl (nI v)], hm)) (P := True) rfl trivial ?_
        refine jt_iret jm_m91 55 rfl ?_
        have e : k = g 0 := by omega
        subst e
        refine ⟨jt_li ?_, Fm⟩
        rw [eb]
        first | (rw [if_pos (by assumption)]; rfl) | (rw [if_neg (by assumption)]; rfl) | (split <;> rfl)
      · refine jt_go jm_m91 52 2 (f' := (110, [(0, .inr (.inr (0, 0, 0))), (1, .inl (nI p)), (2, .inl (nI z)), (3, .inl (nI b)), (4, .inl (nI v)), (5, .inl (nI k))], [.inl (nI b)], hm)) (P := True) rfl trivial ?_
        refine jt_iret jm_m91 55 rfl ?_
        have e : k = g 0 := by omega
        subst e
        refine ⟨jt_li ?_, Fm⟩
        rw [eb]
        first | (rw [if_pos (by assumption)]; rfl) | (rw [if_neg (by assumption)]; rfl) | (split <;> rfl)
    · refine jt_go jm_m91 30 3 (f' := (62, [(0, .inr (.inr (0, 0, 0))), (1, .inl (nI p)), (2, .inl (nI z)), (3, .inl (nI b)), (4, .inl (nI v)), (5, .inl (nI k))], [.inl (nI k), .inl (nI p), .inr (.inr (0, 0, 0))], hm)) (P := True) rfl trivial ?_
      refine jt_call jm_m91 33 (mi' := 92) (as := [.inr (.inr (0, 0, 0)), .inl (nI p), .inl (nI k)]) (rest := []) (nxt := 65) rfl rfl jm_m92 rfl rfl (ca_tillBy Zm W hp (by omega)) ?_
      rintro u h1 ⟨rfl, Fh1⟩
      show jt_T 91 (65, [(0, .inr (.inr (0, 0, 0))), (1, .inl (nI p)), (2, .inl (nI z)), (3, .inl (nI b)), (4, .inl (nI v)), (5, .inl (nI k))], [.inl (jo (sp_wr g p k))], h1) _
      have Zh1 := jf_mov0 Zm Fh1
      have Fh1 := jf_fr_tr Fm Fh1
      rcases ew : sp_wr g p k with _ | w
      · show jt_T 91 (65, [(0, .inr (.inr (0, 0, 0))), (1, .inl (nI p)), (2, .inl (nI z)), (3, .inl (nI b)), (4, .inl (nI v)), (5, .inl (nI k))], [.inl ((-4))], h1) _
        refine jt_go jm_m91 34 3 (f' := (71, [(6, .inl ((-4))), (0, .inr (.inr (0, 0, 0))), (1, .inl (nI p)), (2, .inl (nI z)), (3, .inl (nI b)), (4, .inl (nI v)), (5, .inl (nI k))], [.inl ((-4)), .inl ((-4))], h1)) (P := True) rfl trivial ?_
        refine jt_iceq jm_m91 37 (tgt := 94) (nxt := 74) rfl rfl rfl (fun c71 => ?_) (fun c71 => ?_)
        · refine jt_inc jm_m91 48 (c := k) (L' := [(5, .inl (nI (k + 1))), (6, .inl ((-4))), (0, .inr (.inr (0, 0, 0))), (1, .inl (nI p)), (2, .inl (nI z)), (3, .inl (nI b)), (4, .inl (nI v))]) rfl rfl rfl rfl ?_
          refine jt_go jm_m91 49 1 (f' := (46, [(5, .inl (nI (k + 1))), (6, .inl ((-4))), (0, .inr (.inr (0, 0, 0))), (1, .inl (nI p)), (2, .inl (nI z)), (3, .inl (nI b)), (4, .inl (nI v))], [], h1)) (P := True) rfl trivial ?_
          refine jt_pick (L' := [(0, .inr (.inr (0, 0, 0))), (1, .inl (nI p)), (2, .inl (nI z)), (3, .inl (nI b)), (4, .inl (nI v)), (5, .inl (nI (k + 1)))]) [2, 3, 4, 5, 6, 0] rfl ?_
          have e := sp_bst_none ew
          have q := nx (by omega) h1 Zh1 Fh1
          rw [e, eb] at q
          exact q
        · exact absurd c71 (by decide)
      · show jt_T 91 (65, [(0, .inr (.inr (0, 0, 0))), (1, .inl (nI p)), (2, .inl (nI z)), (3, .inl (nI b)), (4, .inl (nI v)), (5, .inl (nI k))], [.inl (nI w)], h1) _
        have hw := sp_wr_lt ew
        refine jt_go jm_m91 34 3 (f' := (71, [(6, .inl (nI w)), (0, .inr (.inr (0, 0, 0))), (1, .inl (nI p)), (2, .inl (nI z)), (3, .inl (nI b)), (4, .inl (nI v)), (5, .inl (nI k))], [.inl ((-4)), .inl (nI w)], h1)) (P := True) rfl trivial ?_
        refine jt_iceq jm_m91 37 (tgt := 94) (nxt := 74) rfl rfl rfl (fun c71 => ?_) (fun c71 => ?_)
        · exact absurd c71 (nI_nn4 (by omega))
        · refine jt_go jm_m91 38 2 (f' := (77, [(6, .inl (nI w)), (0, .inr (.inr (0, 0, 0))), (1, .inl (nI p)), (2, .inl (nI z)), (3, .inl (nI b)), (4, .inl (nI v)), (5, .inl (nI k))], [.inl ((-4)), .inl (nI b)], h1)) (P := True) rfl trivial ?_
          refine jt_iceq jm_m91 40 (tgt := 87) (nxt := 80) rfl rfl rfl (fun c77 => ?_) (fun c77 => ?_)
          · exact absurd c77 (nI_nn4 (by omega))
          · refine jt_go jm_m91 41 2 (f' := (84, [(6, .inl (nI w)), (0, .inr (.inr (0, 0, 0))), (1, .inl (nI p)), (2, .inl (nI z)), (3, .inl (nI b)), (4, .inl (nI v)), (5, .inl (nI k))], [.inl (nI v), .inl (nI w)], h1)) (P := True) rfl trivial ?_
            refine jt_nicge jm_m91 43 (a := w) (b := v) (by omega) (by omega) (tgt := 94) (nxt := 87) rfl rfl rfl (fun c84 => ?_) (fun c84 => ?_)
            · refine jt_inc jm_m91 48 (c := k) (L' := [(5, .inl (nI (k + 1))), (6, .inl (nI w)), (0, .inr (.inr (0, 0, 0))), (1, .inl (nI p)), (2, .inl (nI z)), (3, .inl (nI b)), (4, .inl (nI v))]) rfl rfl rfl rfl ?_
              refine jt_go jm_m91 49 1 (f' := (46, [(5, .inl (nI (k + 1))), (6, .inl (nI w)), (0, .inr (.inr (0, 0, 0))), (1, .inl (nI p)), (2, .inl (nI z)), (3, .inl (nI b)), (4, .inl (nI v))], [], h1)) (P := True) rfl trivial ?_
              refine jt_pick (L' := [(0, .inr (.inr (0, 0, 0))), (1, .inl (nI p)), (2, .inl (nI z)), (3, .inl (nI b)), (4, .inl (nI v)), (5, .inl (nI (k + 1)))]) [2, 3, 4, 5, 6, 0] rfl ?_
              have e := sp_bst_ge ew eb (by omega)
              have q := nx (by omega) h1 Zh1 Fh1
              rw [e] at q
              exact q
            · refine jt_go jm_m91 44 4 (f' := (94, [(4, .inl (nI w)), (3, .inl (nI k)), (6, .inl (nI w)), (0, .inr (.inr (0, 0, 0))), (1, .inl (nI p)), (2, .inl (nI z)), (5, .inl (nI k))], [], h1)) (P := True) rfl trivial ?_
              refine jt_inc jm_m91 48 (c := k) (L' := [(5, .inl (nI (k + 1))), (4, .inl (nI w)), (3, .inl (nI k)), (6, .inl (nI w)), (0, .inr (.inr (0, 0, 0))), (1, .inl (nI p)), (2, .inl (nI z))]) rfl rfl rfl rfl ?_
              refine jt_go jm_m91 49 1 (f' := (46, [(5, .inl (nI (k + 1))), (4, .inl (nI w)), (3, .inl (nI k)), (6, .inl (nI w)), (0, .inr (.inr (0, 0, 0))), (1, .inl (nI p)), (2, .inl (nI z))], [], h1)) (P := True) rfl trivial ?_
              refine jt_pick (L' := [(0, .inr (.inr (0, 0, 0))), (1, .inl (nI p)), (2, .inl (nI z)), (3, .inl (nI k)), (4, .inl (nI w)), (5, .inl (nI (k + 1)))]) [4, 5, 6, 2, 1, 0] rfl ?_
              have e := sp_bst_less ew eb (by omega)
              have q := nx (by omega) h1 Zh1 Fh1
              rw [e] at q
              exact q)
set_option maxHeartbeats 4000000 in
set_option maxRecDepth 20000 in
theorem cb_wr_l {h : jm_M} {g : Nat → Nat} (W : jw g) {p z : Nat} (hp : p < g 1) (hz : z ≤ 1) : ∀ k, k ≤ g 0 → ∀ hm : jm_M, (jg_rel hm 0 g) → (jg_fr 1 h hm) → jt_T 195 (10, [(0, .inr (.inr (4, 0, 0))), (1, .inl (nI p)), (2, .inl (nI z)), (3, .inl (jo1 (sp_bst (sp_wr g p) k))), (4, .inl (jfar (sp_bst (sp_wr g p) k))), (5, .inl (nI k))], [], hm) (fun u h' => u = some (.inl (if z = 0 then jo1 (sp_bst (sp_wr g p) (g 0)) else jo2 (sp_bst (sp_wr g p) (g 0)))) ∧ jg_fr 1 h h') := jx_up (P := fun k => ∀ hm : jm_M, (jg_rel hm 0 g) → (jg_fr 1 h hm) → jt_T 195 (10, [(0, .inr (.inr (4, 0, 0))), (1, .inl (nI p)), (2, .inl (nI z)), (3, .inl (jo1 (sp_bst (sp_wr g p) k))), (4, .inl (jfar (sp_bst (sp_wr g p) k))), (5, .inl (nI k))], [], hm) (fun u h' => u = some (.inl (if z = 0 then jo1 (sp_bst (sp_wr g p) (g 0)) else jo2 (sp_bst (sp_wr g p) (g 0)))) ∧ jg_fr 1 h h')) (fun k hk nx hm Zm Fm => by
  have bn := jw_n W
  have bm := jw_m W
  have bt := jw_t W
  rcases eb : sp_bst (sp_wr g p) k with _ | ⟨b, v⟩
  · skip
    show jt_T 195 (10, [(0, .inr (.inr (4, 0, 0))), (1, .inl (nI p)), (2, .inl (nI z)), (3, .inl ((-4))), (4, .inl (nI 1000000000)), (5, .inl (nI k))], [], hm) _
    refine jt_go jm_m195 6 5 (f' := (18, [(0, .inr (.inr (4, 0, 0))), (1, .inl (nI p)), (2, .inl (nI z)), (3, .inl ((-4))), (4, .inl (nI 1000000000)), (5, .inl (nI k))], [.inl (hm (5, 0, 0) (nI 0).toNatClampNeg), .inl (nI k)], hm)) (P := vp_in (nI 0) 78 ∧ True) rfl ⟨(vp_in_nI (by omega) (by decide)), trivial⟩ ?_
    refine jt_ti (show (hm (5, 0, 0) (nI 0).toNatClampNeg) = nI (g 0) from jg_get Zm (k := 0) (nI_clamp (by omega)) (by omega)) ?_
    have bq1 := jw_n W
    refine jt_nicge jm_m195 11 (a := k) (b := g 0) (by omega) (by omega) (tgt := 77) (nxt := 21) rfl rfl rfl (fun c18 => ?_) (fun c18 => ?_)
    · refine jt_go jm_m195 38 1 (f' := (78, [(0, .inr (.inr (4, 0, 0))), (1, .inl (nI p)), (2, .inl (nI z)), (3, .inl ((-4))), (4, .inl (nI 1000000000)), (5, .inl (nI k))], [.inl ((-4))], hm)) (P := True) rfl trivial ?_
      refine jt_iflt jm_m195 39 (tgt := 85) (nxt := 81) rfl rfl rfl (fun c78 => ?_) (fun c78 => ?_)
      · refine jt_go jm_m195 42 2 (f' := (91, [(0, .inr (.inr (4, 0, 0))), (1, .inl (nI p)), (2, .inl (nI z)), (3, .inl ((-4))), (4, .inl (nI 1000000000)), (5, .inl (nI k))], [.inl ((-4))], hm)) (P := True) rfl trivial ?_
        refine jt_iret jm_m195 45 rfl ?_
        have e : k = g 0 := by omega
        subst e
        refine ⟨jt_li ?_, Fm⟩
        rw [eb]
        first | (rw [if_pos (by assumption)]; rfl) | (rw [if_neg (by assumption)]; rfl) | (split <;> rfl)
      · exact absurd c78 (by decide)
    · refine jt_go jm_m195 12 4 (f' := (29, [(0, .inr (.inr (4, 0, 0))), (1, .inl (nI p)), (2, .inl (nI z)), (3, .inl ((-4))), (4, .inl (nI 1000000000)), (5, .inl (nI k))], [.inr (.inr (5, 1, 0)), .inr (.inr (5, 0, 0))], hm)) (P := True) rfl trivial ?_
      refine jt_call jm_m195 16 (mi' := 146) (as := [.inr (.inr (5, 0, 0)), .inr (.inr (5, 1, 0))]) (rest := []) (nxt := 32) rfl rfl jm_m146 rfl rfl (tb_copies Zm (by decide)) ?_
      rintro u h1 ⟨rfl, Rh1, Fh1⟩
      show jt_T 195 (32, [(0, .inr (.inr (4, 0, 0))), (1, .inl (nI p)), (2, .inl (nI z)), (3, .inl ((-4))), (4, .inl (nI 1000000000)), (5, .inl (nI k))], [], h1) _
      have Rh1 : jg_rel h1 1 g := Rh1
      have Wh1 : jw (g) := W
      have Zh1 := jg_mov0 Zm Fh1
      have Fh1 := jg_fr_tr Fm Fh1
      refine jt_go jm_m195 17 4 (f' := (39, [(0, .inr (.inr (4, 0, 0))), (1, .inl (nI p)), (2, .inl (nI z)), (3, .inl ((-4))), (4, .inl (nI 1000000000)), (5, .inl (nI k))], [.inl (nI p), .inl (nI k), .inr (.inr (5, 1, 0))], h1)) (P := True) rfl trivial ?_
      refine jt_call jm_m195 21 (mi' := 166) (as := [.inr (.inr (5, 1, 0)), .inl (nI k), .inl (nI p)]) (rest := []) (nxt := 42) rfl rfl jm_m166 rfl rfl (tb_name Rh1 Wh1 (by omega)) ?_
      rintro u h2 ⟨rfl, Rh2, Fh2⟩
      show jt_T 195 (42, [(0, .inr (.inr (4, 0, 0))), (1, .inl (nI p)), (2, .inl (nI z)), (3, .inl ((-4))), (4, .inl (nI 1000000000)), (5, .inl (nI k))], [], h2) _
      have Rh2 : jg_rel h2 1 (sp_nm g k p) := Rh2
      have Wh2 : jw (sp_nm g k p) := jw_nm_ Wh1 (by omega) (Or.inr hp)
      have Zh2 := jg_mov0 Zh1 Fh2
      have Fh2 := jg_fr_tr Fh1 Fh2
      refine jt_go jm_m195 22 2 (f' := (44, [(0, .inr (.inr (4, 0, 0))), (1, .inl (nI p)), (2, .inl (nI z)), (3, .inl ((-4))), (4, .inl (nI 1000000000)), (5, .inl (nI k))], [.inl (nI p), .inr (.inr (4, 0, 0))], h2)) (P := True) rfl trivial ?_
      refine jt_call jm_m195 24 (mi' := 191) (as := [.inr (.inr (4, 0, 0)), .inl (nI p)]) (rest := []) (nxt := 47) rfl rfl jm_m191 rfl rfl (cb_till Rh2 Wh2 (by rw [sp_nm_ne (by decide)]; exact hp)) ?_
      rintro u h3 ⟨rfl, Fh3⟩
      show jt_T 195 (47, [(0, .inr (.inr (4, 0, 0))), (1, .inl (nI p)), (2, .inl (nI z)), (3, .inl ((-4))), (4, .inl (nI 1000000000)), (5, .inl (nI k))], [.inl (jo (sp_wr g p k))], h3) _
      have Zh3 := jg_mov0 Zh2 Fh3
      have Fh3 := jg_fr_tr Fh2 Fh3
      rcases ew : sp_wr g p k with _ | w
      · show jt_T 195 (47, [(0, .inr (.inr (4, 0, 0))), (1, .inl (nI p)), (2, .inl (nI z)), (3, .inl ((-4))), (4, .inl (nI 1000000000)), (5, .inl (nI k))], [.inl ((-4))], h3) _
        refine jt_go jm_m195 25 2 (f' := (51, [(6, .inl ((-4))), (0, .inr (.inr (4, 0, 0))), (1, .inl (nI p)), (2, .inl (nI z)), (3, .inl ((-4))), (4, .inl (nI 1000000000)), (5, .inl (nI k))], [.inl ((-4))], h3)) (P := True) rfl trivial ?_
        refine jt_iflt jm_m195 27 (tgt := 71) (nxt := 54) rfl rfl rfl (fun c51 => ?_) (fun c51 => ?_)
        · refine jt_inc jm_m195 36 (c := k) (L' := [(5, .inl (nI (k + 1))), (6, .inl ((-4))), (0, .inr (.inr (4, 0, 0))), (1, .inl (nI p)), (2, .inl (nI z)), (3, .inl ((-4))), (4, .inl (nI 1000000000))]) rfl rfl rfl rfl ?_
          refine jt_go jm_m195 37 1 (f' := (10, [(5, .inl (nI (k + 1))), (6, .inl ((-4))), (0, .inr (.inr (4, 0, 0))), (1, .inl (nI p)), (2, .inl (nI z)), (3, .inl ((-4))), (4, .inl (nI 1000000000))], [], h3)) (P := True) rfl trivial ?_
          refine jt_pick (L' := [(0, .inr (.inr (4, 0, 0))), (1, .inl (nI p)), (2, .inl (nI z)), (3, .inl ((-4))), (4, .inl (nI 1000000000)), (5, .inl (nI (k + 1)))]) [2, 3, 4, 5, 6, 0] rfl ?_
          have e := sp_bst_none ew
          have q := nx (by omega) h3 Zh3 Fh3
          rw [e, eb] at q
          exact q
        · exact absurd c51 (by decide)
      · show jt_T 195 (47, [(0, .inr (.inr (4, 0, 0))), (1, .inl (nI p)), (2, .inl (nI z)), (3, .inl ((-4))), (4, .inl (nI 1000000000)), (5, .inl (nI k))], [.inl (nI w)], h3) _
        have hw := sp_wr_lt ew
        refine jt_go jm_m195 25 2 (f' := (51, [(6, .inl (nI w)), (0, .inr (.inr (4, 0, 0))), (1, .inl (nI p)), (2, .inl (nI z)), (3, .inl ((-4))), (4, .inl (nI 1000000000)), (5, .inl (nI k))], [.inl (nI w)], h3)) (P := True) rfl trivial ?_
        refine jt_niflt jm_m195 27 (by omega) rfl rfl rfl (fun _ => ?_)
        refine jt_go jm_m195 28 2 (f' := (58, [(6, .inl (nI w)), (0, .inr (.inr (4, 0, 0))), (1, .inl (nI p)), (2, .inl (nI z)), (3, .inl ((-4))), (4, .inl (nI 1000000000)), (5, .inl (nI k))], [.inl (nI 1000000000), .inl (nI w)], h3)) (P := True) rfl trivial ?_
        refine jt_niclt jm_m195 30 (a := w) (b := 1000000000) (by omega) (by omega) (tgt := 64) (nxt := 61) rfl rfl rfl (fun c58 => ?_) (fun c58 => ?_)
        · refine jt_go jm_m195 32 4 (f' := (71, [(4, .inl (nI w)), (3, .inl (nI k)), (6, .inl (nI w)), (0, .inr (.inr (4, 0, 0))), (1, .inl (nI p)), (2, .inl (nI z)), (5, .inl (nI k))], [], h3)) (P := True) rfl trivial ?_
          refine jt_inc jm_m195 36 (c := k) (L' := [(5, .inl (nI (k + 1))), (4, .inl (nI w)), (3, .inl (nI k)), (6, .inl (nI w)), (0, .inr (.inr (4, 0, 0))), (1, .inl (nI p)), (2, .inl (nI z))]) rfl rfl rfl rfl ?_
          refine jt_go jm_m195 37 1 (f' := (10, [(5, .inl (nI (k + 1))), (4, .inl (nI w)), (3, .inl (nI k)), (6, .inl (nI w)), (0, .inr (.inr (4, 0, 0))), (1, .inl (nI p)), (2, .inl (nI z))], [], h3)) (P := True) rfl trivial ?_
          refine jt_pick (L' := [(0, .inr (.inr (4, 0, 0))), (1, .inl (nI p)), (2, .inl (nI z)), (3, .inl (nI k)), (4, .inl (nI w)), (5, .inl (nI (k + 1)))]) [4, 5, 6, 2, 1, 0] rfl ?_
          have e := sp_bst_first ew eb
          have q := nx (by omega) h3 Zh3 Fh3
          rw [e] at q
          exact q
        · refine jt_go jm_m195 31 1 (f' := (71, [(6, .inl (nI w)), (0, .inr (.inr (4, 0, 0))), (1, .inl (nI p)), (2, .inl (nI z)), (3, .inl ((-4))), (4, .inl (nI 1000000000)), (5, .inl (nI k))], [], h3)) (P := True) rfl trivial ?_
          refine jt_inc jm_m195 36 (c := k) (L' := [(5, .inl (nI (k + 1))), (6, .inl (nI w)), (0, .inr (.inr (4, 0, 0))), (1, .inl (nI p)), (2, .inl (nI z)), (3, .inl ((-4))), (4, .inl (nI 1000000000))]) rfl rfl rfl rfl ?_
          refine jt_go jm_m195 37 1 (f' := (10, [(5, .inl (nI (k + 1))), (6, .inl (nI w)), (0, .inr (.inr (4, 0, 0))), (1, .inl (nI p)), (2, .inl (nI z)), (3, .inl ((-4))), (4, .inl (nI 1000000000))], [], h3)) (P := True) rfl trivial ?_
          refine jt_pick (L' := [(0, .inr (.inr (4, 0, 0))), (1, .inl (nI p)), (2, .inl (nI z)), (3, .inl ((-4))), (4, .inl (nI 1000000000)), (5, .inl (nI (k + 1)))]) [2, 3, 4, 5, 6, 0] rfl ?_
          exfalso
          omega
  · have hb := sp_bst_lt (M := 100) (fun i x e => sp_wr_lt e) eb
    have hb1 := hb.1
    have hb2 := hb.2
    show jt_T 195 (10, [(0, .inr (.inr (4, 0, 0))), (1, .inl (nI p)), (2, .inl (nI z)), (3, .inl (nI b)), (4, .inl (nI v)), (5, .inl (nI k))], [], hm) _
    refine jt_go jm_m195 6 5 (f' := (18, [(0, .inr (.inr (4, 0, 0))), (1, .inl (nI p)), (2, .inl (nI z)), (3, .inl (nI b)), (4, .inl (nI v)), (5, .inl (nI k))], [.inl (hm (5, 0, 0) (nI 0).toNatClampNeg), .inl (nI k)], hm)) (P := vp_in (nI 0) 78 ∧ True) rfl ⟨(vp_in_nI (by omega) (by decide)), trivial⟩ ?_
    refine jt_ti (show (hm (5, 0, 0) (nI 0).toNatClampNeg) = nI (g 0) from jg_get Zm (k := 0) (nI_clamp (by omega)) (by omega)) ?_
    have bq1 := jw_n W
    refine jt_nicge jm_m195 11 (a := k) (b := g 0) (by omega) (by omega) (tgt := 77) (nxt := 21) rfl rfl rfl (fun c18 => ?_) (fun c18 => ?_)
    · refine jt_go jm_m195 38 1 (f' := (78, [(0, .inr (.inr (4, 0, 0))), (1, .inl (nI p)), (2, .inl (nI z)), (3, .inl (nI b)), (4, .inl (nI v)), (5, .inl (nI k))], [.inl (nI b)], hm)) (P := True) rfl trivial ?_
      refine jt_niflt jm_m195 39 (by omega) rfl rfl rfl (fun _ => ?_)
      refine jt_go jm_m195 40 1 (f' := (82, [(0, .inr (.inr (4, 0, 0))), (1, .inl (nI p)), (2, .inl (nI z)), (3, .inl (nI b)), (4, .inl (nI v)), (5, .inl (nI k))], [.inl (nI z)], hm)) (P := True) rfl trivial ?_
      refine jt_nifne jm_m195 41 (by omega) (tgt := 89) (nxt := 85) rfl rfl rfl (fun c82 => ?_) (fun c82 => ?_)
      · refine jt_go jm_m195 44 1 (f' := (91, [(0, .inr (.inr (4, 0, 0))), (1, .inl (nI p)), (2, .inl (nI z)), (3, .inl (nI b)), (4, .inl (nI v)), (5, .inl (nI k))], [.inl (nI v)], hm)) (P := True) rfl trivial ?_
        refine jt_iret jm_m195 45 rfl ?_
        have e : k = g 0 := by omega
        subst e
        refine ⟨jt_li ?_, Fm⟩
        rw [eb]
        first | (rw [if_pos (by assumption)]; rfl) | (rw [if_neg (by assumption)]; rfl) | (split <;> rfl)
      · refine jt_go jm_m195 42 2 (f' := (91, [(0, .inr (.inr (4, 0, 0))), (1, .inl (nI p)), (2, .inl (nI z)), (3, .inl (nI b)), (4, .inl (nI v)), (5, .inl (nI k))], [.inl (nI b)], hm)) (P := True) rfl trivial ?_
        refine jt_iret jm_m195 45 rfl ?_
        have e : k = g 0 := by omega
        subst e
        refine ⟨jt_li ?_, Fm⟩
        rw [eb]
        first | (rw [if_pos (by assumption)]; rfl) | (rw [if_neg (by assumption)]; rfl) | (split <;> rfl)
    · refine jt_go jm_m195 12 4 (f' := (29, [(0, .inr (.inr (4, 0, 0))), (1, .inl (nI p)), (2, .inl (nI z)), (3, .inl (nI b)), (4, .inl (nI v)), (5, .inl (nI k))], [.inr (.inr (5, 1, 0)), .inr (.inr (5, 0, 0))], hm)) (P := True) rfl trivial ?_
      refine jt_call jm_m195 16 (mi' := 146) (as := [.inr (.inr (5, 0, 0)), .inr (.inr (5, 1, 0))]) (rest := []) (nxt := 32) rfl rfl jm_m146 rfl rfl (tb_copies Zm (by decide)) ?_
      rintro u h1 ⟨rfl, Rh1, Fh1⟩
      show jt_T 195 (32, [(0, .inr (.inr (4, 0, 0))), (1, .inl (nI p)), (2, .inl (nI z)), (3, .inl (nI b)), (4, .inl (nI v)), (5, .inl (nI k))], [], h1) _
      have Rh1 : jg_rel h1 1 g := Rh1
      have Wh1 : jw (g) := W
      have Zh1 := jg_mov0 Zm Fh1
      have Fh1 := jg_fr_tr Fm Fh1
      refine jt_go jm_m195 17 4 (f' := (39, [(0, .inr (.inr (4, 0, 0))), (1, .inl (nI p)), (2, .inl (nI z)), (3, .inl (nI b)), (4, .inl (nI v)), (5, .inl (nI k))], [.inl (nI p), .inl (nI k), .inr (.inr (5, 1, 0))], h1)) (P := True) rfl trivial ?_
      refine jt_call jm_m195 21 (mi' := 166) (as := [.inr (.inr (5, 1, 0)), .inl (nI k), .inl (nI p)]) (rest := []) (nxt := 42) rfl rfl jm_m166 rfl rfl (tb_name Rh1 Wh1 (by omega)) ?_
      rintro u h2 ⟨rfl, Rh2, Fh2⟩
      show jt_T 195 (42, [(0, .inr (.inr (4, 0, 0))), (1, .inl (nI p)), (2, .inl (nI z)), (3, .inl (nI b)), (4, .inl (nI v)), (5, .inl (nI k))], [], h2) _
      have Rh2 : jg_rel h2 1 (sp_nm g k p) := Rh2
      have Wh2 : jw (sp_nm g k p) := jw_nm_ Wh1 (by omega) (Or.inr hp)
      have Zh2 := jg_mov0 Zh1 Fh2
      have Fh2 := jg_fr_tr Fh1 Fh2
      refine jt_go jm_m195 22 2 (f' := (44, [(0, .inr (.inr (4, 0, 0))), (1, .inl (nI p)), (2, .inl (nI z)), (3, .inl (nI b)), (4, .inl (nI v)), (5, .inl (nI k))], [.inl (nI p), .inr (.inr (4, 0, 0))], h2)) (P := True) rfl trivial ?_
      refine jt_call jm_m195 24 (mi' := 191) (as := [.inr (.inr (4, 0, 0)), .inl (nI p)]) (rest := []) (nxt := 47) rfl rfl jm_m191 rfl rfl (cb_till Rh2 Wh2 (by rw [sp_nm_ne (by decide)]; exact hp)) ?_
      rintro u h3 ⟨rfl, Fh3⟩
      show jt_T 195 (47, [(0, .inr (.inr (4, 0, 0))), (1, .inl (nI p)), (2, .inl (nI z)), (3, .inl (nI b)), (4, .inl (nI v)), (5, .inl (nI k))], [.inl (jo (sp_wr g p k))], h3) _
      have Zh3 := jg_mov0 Zh2 Fh3
      have Fh3 := jg_fr_tr Fh2 Fh3
      rcases ew : sp_wr g p k with _ | w
      · show jt_T 195 (47, [(0, .inr (.inr (4, 0, 0))), (1, .inl (nI p)), (2, .inl (nI z)), (3, .inl (nI b)), (4, .inl (nI v)), (5, .inl (nI k))], [.inl ((-4))], h3) _
        refine jt_go jm_m195 25 2 (f' := (51, [(6, .inl ((-4))), (0, .inr (.inr (4, 0, 0))), (1, .inl (nI p)), (2, .inl (nI z)), (3, .inl (nI b)), (4, .inl (nI v)), (5, .inl (nI k))], [.inl ((-4))], h3)) (P := True) rfl trivial ?_
        refine jt_iflt jm_m195 27 (tgt := 71) (nxt := 54) rfl rfl rfl (fun c51 => ?_) (fun c51 => ?_)
        · refine jt_inc jm_m195 36 (c := k) (L' := [(5, .inl (nI (k + 1))), (6, .inl ((-4))), (0, .inr (.inr (4, 0, 0))), (1, .inl (nI p)), (2, .inl (nI z)), (3, .inl (nI b)), (4, .inl (nI v))]) rfl rfl rfl rfl ?_
          refine jt_go jm_m195 37 1 (f' := (10, [(5, .inl (nI (k + 1))), (6, .inl ((-4))), (0, .inr (.inr (4, 0, 0))), (1, .inl (nI p)), (2, .inl (nI z)), (3, .inl (nI b)), (4, .inl (nI v))], [], h3)) (P := True) rfl trivial ?_
          refine jt_pick (L' := [(0, .inr (.inr (4, 0, 0))), (1, .inl (nI p)), (2, .inl (nI z)), (3, .inl (nI b)), (4, .inl (nI v)), (5, .inl (nI (k + 1)))]) [2, 3, 4, 5, 6, 0] rfl ?_
          have e := sp_bst_none ew
          have q := nx (by omega) h3 Zh3 Fh3
          rw [e, eb] at q
          exact q
        · exact absurd c51 (by decide)
      · show jt_T 195 (47, [(0, .inr (.inr (4, 0, 0))), (1, .inl (nI p)), (2, .inl (nI z)), (3, .inl (nI b)), (4, .inl (nI v)), (5, .inl (nI k))], [.inl (nI w)], h3) _
        have hw := sp_wr_lt ew
        refine jt_go jm_m195 25 2 (f' := (51, [(6, .inl (nI w)), (0, .inr (.inr (4, 0, 0))), (1, .inl (nI p)), (2, .inl (nI z)), (3, .inl (nI b)), (4, .inl (nI v)), (5, .inl (nI k))], [.inl (nI w)], h3)) (P := True) rfl trivial ?_
        refine jt_niflt jm_m195 27 (by omega) rfl rfl rfl (fun _ => ?_)
        refine jt_go jm_m195 28 2 (f' := (58, [(6, .inl (nI w)), (0, .inr (.inr (4, 0, 0))), (1, .inl (nI p)), (2, .inl (nI z)), (3, .inl (nI b)), (4, .inl (nI v)), (5, .inl (nI k))], [.inl (nI v), .inl (nI w)], h3)) (P := True) rfl trivial ?_
        refine jt_niclt jm_m195 30 (a := w) (b := v) (by omega) (by omega) (tgt := 64) (nxt := 61) rfl rfl rfl (fun c58 => ?_) (fun c58 => ?_)
        · refine jt_go jm_m195 32 4 (f' := (71, [(4, .inl (nI w)), (3, .inl (nI k)), (6, .inl (nI w)), (0, .inr (.inr (4, 0, 0))), (1, .inl (nI p)), (2, .inl (nI z)), (5, .inl (nI k))], [], h3)) (P := True) rfl trivial ?_
          refine jt_inc jm_m195 36 (c := k) (L' := [(5, .inl (nI (k + 1))), (4, .inl (nI w)), (3, .inl (nI k)), (6, .inl (nI w)), (0, .inr (.inr (4, 0, 0))), (1, .inl (nI p)), (2, .inl (nI z))]) rfl rfl rfl rfl ?_
          refine jt_go jm_m195 37 1 (f' := (10, [(5, .inl (nI (k + 1))), (4, .inl (nI w)), (3, .inl (nI k)), (6, .inl (nI w)), (0, .inr (.inr (4, 0, 0))), (1, .inl (nI p)), (2, .inl (nI z))], [], h3)) (P := True) rfl trivial ?_
          refine jt_pick (L' := [(0, .inr (.inr (4, 0, 0))), (1, .inl (nI p)), (2, .inl (nI z)), (3, .inl (nI k)), (4, .inl (nI w)), (5, .inl (nI (k + 1)))]) [4, 5, 6, 2, 1, 0] rfl ?_
          have e := sp_bst_less ew eb (by omega)
          have q := nx (by omega) h3 Zh3 Fh3
          rw [e] at q
          exact q
        · refine jt_go jm_m195 31 1 (f' := (71, [(6, .inl (nI w)), (0, .inr (.inr (4, 0, 0))), (1, .inl (nI p)), (2, .inl (nI z)), (3, .inl (nI b)), (4, .inl (nI v)), (5, .inl (nI k))], [], h3)) (P := True) rfl trivial ?_
          refine jt_inc jm_m195 36 (c := k) (L' := [(5, .inl (nI (k + 1))), (6, .inl (nI w)), (0, .inr (.inr (4, 0, 0))), (1, .inl (nI p)), (2, .inl (nI z)), (3, .inl (nI b)), (4, .inl (nI v))]) rfl rfl rfl rfl ?_
          refine jt_go jm_m195 37 1 (f' := (10, [(5, .inl (nI (k + 1))), (6, .inl (nI w)), (0, .inr (.inr (4, 0, 0))), (1, .inl (nI p)), (2, .inl (nI z)), (3, .inl (nI b)), (4, .inl (nI v))], [], h3)) (P := True) rfl trivial ?_
          refine jt_pick (L' := [(0, .inr (.inr (4, 0, 0))), (1, .inl (nI p)), (2, .inl (nI z)), (3, .inl (nI b)), (4, .inl (nI v)), (5, .inl (nI (k + 1)))]) [2, 3, 4, 5, 6, 0] rfl ?_
          have e := sp_bst_ge ew eb (by omega)
          have q := nx (by omega) h3 Zh3 Fh3
          rw [e] at q
          exact q)
set_option maxHeartbeats 4000000 in
set_option maxRecDepth 20000 in
theorem cb_wr {h : jm_M} {g : Nat → Nat} (R : jg_rel h 0 g) (W : jw g) {p z : Nat} (hp : p < g 1) (hz : z ≤ 1) : jt_T 195 (0, [(0, .inr (.inr (4, 0, 0))), (1, .inl (nI p)), (2, .inl (nI z))], [], h) (fun u h' => u = some (.inl (if z = 0 then jo1 (sp_bst (sp_wr g p) (g 0)) else jo2 (sp_bst (sp_wr g p) (g 0)))) ∧ jg_fr 1 h h') := by
  refine jt_go jm_m195 0 6 (f' := (10, [(5, .inl (nI 0)), (4, .inl (nI 1000000000)), (3, .inl ((-4))), (0, .inr (.inr (4, 0, 0))), (1, .inl (nI p)), (2, .inl (nI z))], [], h)) (P := True) rfl trivial ?_
  refine jt_pick (L' := [(0, .inr (.inr (4, 0, 0))), (1, .inl (nI p)), (2, .inl (nI z)), (3, .inl ((-4))), (4, .inl (nI 1000000000)), (5, .inl (nI 0))]) [3, 4, 5, 2, 1, 0] rfl ?_
  exact cb_wr_l W hp hz 0 (Nat.zero_le _) _ R jg_fr_rf
def zb_write (g : Nat → Nat) (p z : Nat) : Int32 := if g (67 + 2 * p) = 1 then (-3) else if z = 0 then jo1 (sp_bst (sp_wr g p) (g 0)) else jo2 (sp_bst (sp_wr g p) (g 0))
def za_write (g : Nat → Nat) (x y : Int32) : Int32 := if (nI 0 ≤ x ∧ x < nI (g 1)) ∧ (nI 0 ≤ y ∧ y ≤ nI 1) then zb_write g x.toNatClampNeg y.toNatClampNeg else (-1)
set_option maxHeartbeats 4000000 in
set_option maxRecDepth 20000 in
theorem ca_write {h : jm_M} {g : Nat → Nat} (R : jf_rel h 0 g) (W : jw g) {x y : Int32} : jt_T 91 (0, [(0, .inr (.inr (0, 0, 0))), (1, .inl (x)), (2, .inl (y))], [], h) (fun u h' => u = some (.inl (za_write g x y)) ∧ jf_fr 1 h h') := by
  have bn := jw_n W
  have bm := jw_m W
  have bt := jw_t W
  refine jt_go jm_m91 0 3 (f' := (5, [(0, .inr (.inr (0, 0, 0))), (1, .inl (x)), (2, .inl (y))], [.inl (x), .inr (.inr (2, 0, 0))], h)) (P := True) rfl trivial ?_
  refine jt_callp (w := .inl (jm_b (nI 0 ≤ x ∧ x < nI (g 1)))) jm_m91 3 (mi' := 8) (as := [.inr (.inr (2, 0, 0)), .inl (x)]) (rest := []) (nxt := 8) rfl rfl jm_m8 rfl rfl (ta_hasMan R W) ?_
  refine jt_ifbeq jm_m91 4 (tgt := 20) (nxt := 11) rfl rfl rfl (fun c8 => ?_) (fun c8 => ?_)
  · refine jt_go jm_m91 10 1 (f' := (21, [(0, .inr (.inr (0, 0, 0))), (1, .inl (x)), (2, .inl (y))], [.inl ((-1))], h)) (P := True) rfl trivial ?_
    refine jt_iret jm_m91 11 rfl ?_
    exact ⟨jt_li (if_neg (fun z => c8 z.1)).symm, jf_fr_rf⟩
  · obtain ⟨p, hbp, rfl⟩ := jx_cat (by omega) c8
    refine jt_go jm_m91 5 3 (f' := (14, [(0, .inr (.inr (0, 0, 0))), (1, .inl (nI p)), (2, .inl (y))], [.inl (nI 1), .inl (nI 0), .inl (y)], h)) (P := True) rfl trivial ?_
    refine jt_callp (w := .inl (jm_b (nI 0 ≤ y ∧ y ≤ nI 1))) jm_m91 8 (mi' := 136) (as := [.inl (y), .inl (nI 0), .inl (nI 1)]) (rest := []) (nxt := 17) rfl rfl jm_m136 rfl rfl (ta_within) ?_
    refine jt_ifbne jm_m91 9 (tgt := 22) (nxt := 20) rfl rfl rfl (fun c17 => ?_) (fun c17 => ?_)
    · obtain ⟨z, hbz, rfl⟩ := jx_win (by decide) c17
      refine jt_go jm_m91 12 3 (f' := (27, [(0, .inr (.inr (0, 0, 0))), (1, .inl (nI p)), (2, .inl (nI z))], [.inl (nI p), .inr (.inr (2, 0, 0))], h)) (P := True) rfl trivial ?_
      refine jt_callp (w := .inl (jm_b (g (67 + 2 * p) = 1))) jm_m91 15 (mi' := 10) (as := [.inr (.inr (2, 0, 0)), .inl (nI p)]) (rest := []) (nxt := 30) rfl rfl jm_m10 rfl rfl (ta_hasPassed R W (by omega)) ?_
      have bq1 := jw_pas W (c := p) (by omega)
      refine jt_ifbeq jm_m91 16 (tgt := 36) (nxt := 33) rfl rfl rfl (fun c30 => ?_) (fun c30 => ?_)
      · refine jt_go jm_m91 19 6 (f' := (46, [(5, .inl (nI 0)), (4, .inl ((-4))), (3, .inl ((-4))), (0, .inr (.inr (0, 0, 0))), (1, .inl (nI p)), (2, .inl (nI z))], [], h)) (P := True) rfl trivial ?_
        refine jt_pick (L' := [(0, .inr (.inr (0, 0, 0))), (1, .inl (nI p)), (2, .inl (nI z)), (3, .inl ((-4))), (4, .inl ((-4))), (5, .inl (nI 0))]) [3, 4, 5, 2, 1, 0] rfl ?_
        refine jt_mono (ca_wr_l W hbp hbz 0 (Nat.zero_le _) _ R jf_fr_rf) (fun u h2 zz => ⟨zz.1.trans (jt_li ?_), zz.2⟩)
        unfold za_write
        refine Eq.trans ?_ (if_pos ⟨c8, c17⟩).symm
        rw [nI_clamp (n := p) (by omega), nI_clamp (n := z) (by omega)]
        unfold zb_write
        exact (if_neg (by assumption)).symm
      · refine jt_go jm_m91 17 1 (f' := (35, [(0, .inr (.inr (0, 0, 0))), (1, .inl (nI p)), (2, .inl (nI z))], [.inl ((-3))], h)) (P := True) rfl trivial ?_
        refine jt_iret jm_m91 18 rfl ?_
        refine ⟨jt_li ?_, jf_fr_rf⟩
        unfold za_write
        refine Eq.trans ?_ (if_pos ⟨c8, c17⟩).symm
        rw [nI_clamp (n := p) (by omega), nI_clamp (n := z) (by omega)]
        unfold zb_write
        first | exact (if_pos (by assumption)).symm | exact (if_neg (by assumption)).symm
    · refine jt_go jm_m91 10 1 (f' := (21, [(0, .inr (.inr (0, 0, 0))), (1, .inl (nI p)), (2, .inl (y))], [.inl ((-1))], h)) (P := True) rfl trivial ?_
      refine jt_iret jm_m91 11 rfl ?_
      exact ⟨jt_li (if_neg (fun z => c17 z.2)).symm, jf_fr_rf⟩
set_option maxHeartbeats 4000000 in
set_option maxRecDepth 20000 in
theorem cb_write {h : jm_M} {g : Nat → Nat} (R : jg_rel h 0 g) (W : jw g) {x y : Int32} : jt_T 196 (0, [(0, .inr (.inr (4, 0, 0))), (1, .inl (x)), (2, .inl (y))], [], h) (fun u h' => u = some (.inl (za_write g x y)) ∧ jg_fr 1 h h') := by
  have bn := jw_n W
  have bm := jw_m W
  have bt := jw_t W
  refine jt_go jm_m196 0 2 (f' := (2, [(0, .inr (.inr (4, 0, 0))), (1, .inl (x)), (2, .inl (y))], [.inl (x), .inr (.inr (4, 0, 0))], h)) (P := True) rfl trivial ?_
  refine jt_callp (w := .inl (jm_b (nI 0 ≤ x ∧ x < nI (g 1)))) jm_m196 2 (mi' := 150) (as := [.inr (.inr (4, 0, 0)), .inl (x)]) (rest := []) (nxt := 5) rfl rfl jm_m150 rfl rfl (tb_isMan R W) ?_
  refine jt_ifbeq jm_m196 3 (tgt := 17) (nxt := 8) rfl rfl rfl (fun c5 => ?_) (fun c5 => ?_)
  · refine jt_go jm_m196 9 1 (f' := (18, [(0, .inr (.inr (4, 0, 0))), (1, .inl (x)), (2, .inl (y))], [.inl ((-1))], h)) (P := True) rfl trivial ?_
    refine jt_iret jm_m196 10 rfl ?_
    exact ⟨jt_li (if_neg (fun z => c5 z.1)).symm, jg_fr_rf⟩
  · obtain ⟨p, hbp, rfl⟩ := jx_cat (by omega) c5
    refine jt_go jm_m196 4 3 (f' := (11, [(0, .inr (.inr (4, 0, 0))), (1, .inl (nI p)), (2, .inl (y))], [.inl (nI 1), .inl (nI 0), .inl (y)], h)) (P := True) rfl trivial ?_
    refine jt_callp (w := .inl (jm_b (nI 0 ≤ y ∧ y ≤ nI 1))) jm_m196 7 (mi' := 143) (as := [.inl (y), .inl (nI 0), .inl (nI 1)]) (rest := []) (nxt := 14) rfl rfl jm_m143 rfl rfl (tb_isIn) ?_
    refine jt_ifbne jm_m196 8 (tgt := 19) (nxt := 17) rfl rfl rfl (fun c14 => ?_) (fun c14 => ?_)
    · obtain ⟨z, hbz, rfl⟩ := jx_win (by decide) c14
      refine jt_go jm_m196 11 4 (f' := (25, [(0, .inr (.inr (4, 0, 0))), (1, .inl (nI p)), (2, .inl (nI z))], [.inl (nI 1), .inl (nI p), .inr (.inr (5, 0, 0))], h)) (P := True) rfl trivial ?_
      refine jt_callp (w := .inl (nI (67 + 2 * p))) jm_m196 15 (mi' := 148) (as := [.inl (nI p), .inl (nI 1)]) (rest := [.inr (.inr (5, 0, 0))]) (nxt := 28) rfl rfl jm_m148 rfl rfl (tb_ofM (k := 67 + 2 * p) (by omega)) ?_
      refine jt_go jm_m196 16 1 (f' := (29, [(0, .inr (.inr (4, 0, 0))), (1, .inl (nI p)), (2, .inl (nI z))], [.inl (h (5, 0, 0) (nI (67 + 2 * p)).toNatClampNeg)], h)) (P := vp_in (nI (67 + 2 * p)) 78 ∧ True) rfl ⟨(vp_in_nI (by omega) (by decide)), trivial⟩ ?_
      refine jt_ti (show (h (5, 0, 0) (nI (67 + 2 * p)).toNatClampNeg) = nI (g (67 + 2 * p)) from jg_get R (k := 67 + 2 * p) (nI_clamp (by omega)) (by omega)) ?_
      have bq1 := jw_pas W (c := p) (by omega)
      refine jt_go jm_m196 17 1 (f' := (30, [(0, .inr (.inr (4, 0, 0))), (1, .inl (nI p)), (2, .inl (nI z))], [.inl (nI 1), .inl (nI (g (67 + 2 * p)))], h)) (P := True) rfl trivial ?_
      refine jt_nicne jm_m196 18 (a := g (67 + 2 * p)) (b := 1) (by omega) (by omega) (tgt := 38) (nxt := 33) rfl rfl rfl (fun c30 => ?_) (fun c30 => ?_)
      · refine jt_go jm_m196 21 3 (f' := (41, [(0, .inr (.inr (4, 0, 0))), (1, .inl (nI p)), (2, .inl (nI z))], [.inl (nI z), .inl (nI p), .inr (.inr (4, 0, 0))], h)) (P := True) rfl trivial ?_
        refine jt_call jm_m196 24 (mi' := 195) (as := [.inr (.inr (4, 0, 0)), .inl (nI p), .inl (nI z)]) (rest := []) (nxt := 44) rfl rfl jm_m195 rfl rfl (cb_wr R W hbp hbz) ?_
        rintro u h1 ⟨rfl, Fh1⟩
        show jt_T 196 (44, [(0, .inr (.inr (4, 0, 0))), (1, .inl (nI p)), (2, .inl (nI z))], [.inl (if z = 0 then jo1 (sp_bst (sp_wr g p) (g 0)) else jo2 (sp_bst (sp_wr g p) (g 0)))], h1) _
        have Zh1 := jg_mov0 R Fh1
        refine jt_iret jm_m196 25 rfl ?_
        refine ⟨jt_li ?_, Fh1⟩
        unfold za_write
        refine Eq.trans ?_ (if_pos ⟨c5, c14⟩).symm
        rw [nI_clamp (n := p) (by omega), nI_clamp (n := z) (by omega)]
        unfold zb_write
        first | exact (if_pos (by assumption)).symm | exact (if_neg (by assumption)).symm
      · refine jt_go jm_m196 19 2 (f' := (44, [(0, .inr (.inr (4, 0, 0))), (1, .inl (nI p)), (2, .inl (nI z))], [.inl ((-3))], h)) (P := True) rfl trivial ?_
        refine jt_iret jm_m196 25 rfl ?_
        refine ⟨jt_li ?_, jg_fr_rf⟩
        unfold za_write
        refine Eq.trans ?_ (if_pos ⟨c5, c14⟩).symm
        rw [nI_clamp (n := p) (by omega), nI_clamp (n := z) (by omega)]
        unfold zb_write
        first | exact (if_pos (by assumption)).symm | exact (if_neg (by assumption)).symm
    · refine jt_go jm_m196 9 1 (f' := (18, [(0, .inr (.inr (4, 0, 0))), (1, .inl (nI p)), (2, .inl (y))], [.inl ((-1))], h)) (P := True) rfl trivial ?_
      refine jt_iret jm_m196 10 rfl ?_
      exact ⟨jt_li (if_neg (fun z => c14 z.2)).symm, jg_fr_rf⟩
set_option maxHeartbeats 4000000 in
set_option maxRecDepth 20000 in
theorem ca_pf_l {h : jm_M} {g : Nat → Nat} (W : jw g) {c p y z : Nat} (hc : c < g 0) (hp : p < 16) (hy : y ≤ 9) (hz : z ≤ 1) : ∀ k, k ≤ 16 → ∀ hm : jm_M, (jf_rel hm 0 g) → (jf_fr 1 h hm) → jt_T 94 (51, [(0, .inr (.inr (0, 0, 0))), (1, .inl (nI c)), (2, .inl (nI p)), (3, .inl (nI y)), (4, .inl (nI z)), (5, .inl (jo1 (sp_bst (sp_pf g c p y) k))), (6, .inl (jo2 (sp_bst (sp_pf g c p y) k))), (7, .inl (nI k))], [], hm) (fun u h' => u = some (.inl (if z = 0 then jo1 (sp_bst (sp_pf g c p y) (16)) else jo2 (sp_bst (sp_pf g c p y) (16)))) ∧ jf_fr 1 h h') := jx_up (P := fun k => ∀ hm : jm_M, (jf_rel hm 0 g) → (jf_fr 1 h hm) → jt_T 94 (51, [(0, .inr (.inr (0, 0, 0))), (1, .inl (nI c)), (2, .inl (nI p)), (3, .inl (nI y)), (4, .inl (nI z)), (5, .inl (jo1 (sp_bst (sp_pf g c p y) k))), (6, .inl (jo2 (sp_bst (sp_pf g c p y) k))), (7, .inl (nI k))], [], hm) (fun u h' => u = some (.inl (if z = 0 then jo1 (sp_bst (sp_pf g c p y) (16)) else jo2 (sp_bst (sp_pf g c p y) (16)))) ∧ jf_fr 1 h h')) (fun k hk nx hm Zm Fm => by
  have bn := jw_n W
  have bm := jw_m W
  have bt := jw_t W
  rcases eb : sp_bst (sp_pf g c p y) k with _ | ⟨b, v⟩
  · skip
    show jt_T 94 (51, [(0, .inr (.inr (0, 0, 0))), (1, .inl (nI c)), (2, .inl (nI p)), (3, .inl (nI y)), (4, .inl (nI z)), (5, .inl ((-4))), (6, .inl ((-4))), (7, .inl (nI k))], [], hm) _
    refine jt_go jm_m94 26 2 (f' := (55, [(0, .inr (.inr (0, 0, 0))), (1, .inl (nI c)), (2, .inl (nI p)), (3, .inl (nI y)), (4, .inl (nI z)), (5, .inl ((-4))), (6, .inl ((-4))), (7, .inl (nI k))], [.inl (nI 16), .inl (nI k)], hm)) (P := True) rfl trivial ?_
    refine jt_nicge jm_m94 28 (a := k) (b := 16) (by omega) (by omega) (tgt := 122) (nxt := 58) rfl rfl rfl (fun c55 => ?_) (fun c55 => ?_)
    · refine jt_go jm_m94 59 1 (f' := (124, [(0, .inr (.inr (0, 0, 0))), (1, .inl (nI c)), (2, .inl (nI p)), (3, .inl (nI y)), (4, .inl (nI z)), (5, .inl ((-4))), (6, .inl ((-4))), (7, .inl (nI k))], [.inl (nI z)], hm)) (P := True) rfl trivial ?_
      refine jt_nifne jm_m94 60 (by omega) (tgt := 132) (nxt := 127) rfl rfl rfl (fun c124 => ?_) (fun c124 => ?_)
      · refine jt_go jm_m94 63 1 (f' := (134, [(0, .inr (.inr (0, 0, 0))), (1, .inl (nI c)), (2, .inl (nI p)), (3, .inl (nI y)), (4, .inl (nI z)), (5, .inl ((-4))), (6, .inl ((-4))), (7, .inl (nI k))], [.inl ((-4))], hm)) (P := True) rfl trivial ?_
        refine jt_iret jm_m94 64 rfl ?_
        have e : k = 16 := by omega
        subst e
        refine ⟨jt_li ?_, Fm⟩
        rw [eb]
        first | (rw [if_pos (by assumption)]; rfl) | (rw [if_neg (by assumption)]; rfl) | (split <;> rfl)
      · refine jt_go jm_m94 61 2 (f' := (134, [(0, .inr (.inr (0, 0, 0))), (1, .inl (nI c)), (2, .inl (nI p)), (3, .inl (nI y)), (4, .inl (nI z)), (5, .inl ((-4))), (6, .inl ((-4))), (7, .inl (nI k))], [.inl ((-4))], hm)) (P := True) rfl trivial ?_
        refine jt_iret jm_m94 64 rfl ?_
        have e : k = 16 := by omega
        subst e
        refine ⟨jt_li ?_, Fm⟩
        rw [eb]
        first | (rw [if_pos (by assumption)]; rfl) | (rw [if_neg (by assumption)]; rfl) | (split <;> rfl)
    · refine jt_go jm_m94 29 4 (f' := (66, [(0, .inr (.inr (0, 0, 0))), (1, .inl (nI c)), (2, .inl (nI p)), (3, .inl (nI y)), (4, .inl (nI z)), (5, .inl ((-4))), (6, .inl ((-4))), (7, .inl (nI k))], [.inr (.inr (2, 0, 0)), .inr (.inr (2, 1, 0))], hm)) (P := True) rfl trivial ?_
      refine jt_call jm_m94 33 (mi' := 6) (as := [.inr (.inr (2, 1, 0)), .inr (.inr (2, 0, 0))]) (rest := []) (nxt := 69) rfl rfl jm_m6 rfl rfl (ta_becomes Zm W (by decide)) ?_
      rintro u h1 ⟨rfl, Rh1, Fh1⟩
      show jt_T 94 (69, [(0, .inr (.inr (0, 0, 0))), (1, .inl (nI c)), (2, .inl (nI p)), (3, .inl (nI y)), (4, .inl (nI z)), (5, .inl ((-4))), (6, .inl ((-4))), (7, .inl (nI k))], [], h1) _
      have Rh1 : jf_rel h1 1 g := Rh1
      have Wh1 : jw (g) := W
      have Zh1 := jf_mov0 Zm Fh1
      have Fh1 := jf_fr_tr Fm Fh1
      refine jt_go jm_m94 34 4 (f' := (76, [(0, .inr (.inr (0, 0, 0))), (1, .inl (nI c)), (2, .inl (nI p)), (3, .inl (nI y)), (4, .inl (nI z)), (5, .inl ((-4))), (6, .inl ((-4))), (7, .inl (nI k))], [.inl (nI y), .inl (nI k), .inr (.inr (2, 1, 0))], h1)) (P := True) rfl trivial ?_
      refine jt_call jm_m94 38 (mi' := 16) (as := [.inr (.inr (2, 1, 0)), .inl (nI k), .inl (nI y)]) (rest := []) (nxt := 79) rfl rfl jm_m16 rfl rfl (ta_addFish Rh1 Wh1 (by omega) (by omega)) ?_
      rintro u h2 ⟨rfl, Rh2, Fh2⟩
      show jt_T 94 (79, [(0, .inr (.inr (0, 0, 0))), (1, .inl (nI c)), (2, .inl (nI p)), (3, .inl (nI y)), (4, .inl (nI z)), (5, .inl ((-4))), (6, .inl ((-4))), (7, .inl (nI k))], [], h2) _
      have Rh2 : jf_rel h2 1 (sp_af g k y) := Rh2
      have Wh2 : jw (sp_af g k y) := jw_af Wh1 (by omega)
      have Zh2 := jf_mov0 Zh1 Fh2
      have Fh2 := jf_fr_tr Fh1 Fh2
      refine jt_go jm_m94 39 3 (f' := (82, [(0, .inr (.inr (0, 0, 0))), (1, .inl (nI c)), (2, .inl (nI p)), (3, .inl (nI y)), (4, .inl (nI z)), (5, .inl ((-4))), (6, .inl ((-4))), (7, .inl (nI k))], [.inl (nI p), .inl (nI c), .inr (.inr (0, 0, 0))], h2)) (P := True) rfl trivial ?_
      refine jt_call jm_m94 42 (mi' := 95) (as := [.inr (.inr (0, 0, 0)), .inl (nI c), .inl (nI p)]) (rest := []) (nxt := 85) rfl rfl jm_m95 rfl rfl (ca_tat Rh2 Wh2 (by rw [sp_af_ne (by decide)]; exact hc) hp) ?_
      rintro u h3 ⟨rfl, Fh3⟩
      show jt_T 94 (85, [(0, .inr (.inr (0, 0, 0))), (1, .inl (nI c)), (2, .inl (nI p)), (3, .inl (nI y)), (4, .inl (nI z)), (5, .inl ((-4))), (6, .inl ((-4))), (7, .inl (nI k))], [.inl (jo (sp_pf g c p y k))], h3) _
      have Zh3 := jf_mov0 Zh2 Fh3
      have Fh3 := jf_fr_tr Fh2 Fh3
      rcases ew : sp_pf g c p y k with _ | w
      · show jt_T 94 (85, [(0, .inr (.inr (0, 0, 0))), (1, .inl (nI c)), (2, .inl (nI p)), (3, .inl (nI y)), (4, .inl (nI z)), (5, .inl ((-4))), (6, .inl ((-4))), (7, .inl (nI k))], [.inl ((-4))], h3) _
        refine jt_go jm_m94 43 3 (f' := (91, [(8, .inl ((-4))), (0, .inr (.inr (0, 0, 0))), (1, .inl (nI c)), (2, .inl (nI p)), (3, .inl (nI y)), (4, .inl (nI z)), (5, .inl ((-4))), (6, .inl ((-4))), (7, .inl (nI k))], [.inl ((-4)), .inl ((-4))], h3)) (P := True) rfl trivial ?_
        refine jt_iceq jm_m94 46 (tgt := 116) (nxt := 94) rfl rfl rfl (fun c91 => ?_) (fun c91 => ?_)
        · refine jt_inc jm_m94 57 (c := k) (L' := [(7, .inl (nI (k + 1))), (8, .inl ((-4))), (0, .inr (.inr (0, 0, 0))), (1, .inl (nI c)), (2, .inl (nI p)), (3, .inl (nI y)), (4, .inl (nI z)), (5, .inl ((-4))), (6, .inl ((-4)))]) rfl rfl rfl rfl ?_
          refine jt_go jm_m94 58 1 (f' := (51, [(7, .inl (nI (k + 1))), (8, .inl ((-4))), (0, .inr (.inr (0, 0, 0))), (1, .inl (nI c)), (2, .inl (nI p)), (3, .inl (nI y)), (4, .inl (nI z)), (5, .inl ((-4))), (6, .inl ((-4)))], [], h3)) (P := True) rfl trivial ?_
          refine jt_pick (L' := [(0, .inr (.inr (0, 0, 0))), (1, .inl (nI c)), (2, .inl (nI p)), (3, .inl (nI y)), (4, .inl (nI z)), (5, .inl ((-4))), (6, .inl ((-4))), (7, .inl (nI (k + 1)))]) [2, 3, 4, 5, 6, 7, 8, 0] rfl ?_
          have e := sp_bst_none ew
          have q := nx (by omega) h3 Zh3 Fh3
          rw [e, eb] at q
          exact q
        · exact absurd c91 (by decide)
      · show jt_T 94 (85, [(0, .inr (.inr (0, 0, 0))), (1, .inl (nI c)), (2, .inl (nI p)), (3, .inl (nI y)), (4, .inl (nI z)), (5, .inl ((-4))), (6, .inl ((-4))), (7, .inl (nI k))], [.inl (nI w)], h3) _
        have hw := sp_pf_lt ew
        refine jt_go jm_m94 43 3 (f' := (91, [(8, .inl (nI w)), (0, .inr (.inr (0, 0, 0))), (1, .inl (nI c)), (2, .inl (nI p)), (3, .inl (nI y)), (4, .inl (nI z)), (5, .inl ((-4))), (6, .inl ((-4))), (7, .inl (nI k))], [.inl ((-4)), .inl (nI w)], h3)) (P := True) rfl trivial ?_
        refine jt_iceq jm_m94 46 (tgt := 116) (nxt := 94) rfl rfl rfl (fun c91 => ?_) (fun c91 => ?_)
        · exact absurd c91 (nI_nn4 (by omega))
        · refine jt_go jm_m94 47 2 (f' := (98, [(8, .inl (nI w)), (0, .inr (.inr (0, 0, 0))), (1, .inl (nI c)), (2, .inl (nI p)), (3, .inl (nI y)), (4, .inl (nI z)), (5, .inl ((-4))), (6, .inl ((-4))), (7, .inl (nI k))], [.inl ((-4)), .inl ((-4))], h3)) (P := True) rfl trivial ?_
          refine jt_iceq jm_m94 49 (tgt := 108) (nxt := 101) rfl rfl rfl (fun c98 => ?_) (fun c98 => ?_)
          · refine jt_go jm_m94 53 4 (f' := (116, [(6, .inl (nI w)), (5, .inl (nI k)), (8, .inl (nI w)), (0, .inr (.inr (0, 0, 0))), (1, .inl (nI c)), (2, .inl (nI p)), (3, .inl (nI y)), (4, .inl (nI z)), (7, .inl (nI k))], [], h3)) (P := True) rfl trivial ?_
            refine jt_inc jm_m94 57 (c := k) (L' := [(7, .inl (nI (k + 1))), (6, .inl (nI w)), (5, .inl (nI k)), (8, .inl (nI w)), (0, .inr (.inr (0, 0, 0))), (1, .inl (nI c)), (2, .inl (nI p)), (3, .inl (nI y)), (4, .inl (nI z))]) rfl rfl rfl rfl ?_
            refine jt_go jm_m94 58 1 (f' := (51, [(7, .inl (nI (k + 1))), (6, .inl (nI w)), (5, .inl (nI k)), (8, .inl (nI w)), (0, .inr (.inr (0, 0, 0))), (1, .inl (nI c)), (2, .inl (nI p)), (3, .inl (nI y)), (4, .inl (nI z))], [], h3)) (P := True) rfl trivial ?_
            refine jt_pick (L' := [(0, .inr (.inr (0, 0, 0))), (1, .inl (nI c)), (2, .inl (nI p)), (3, .inl (nI y)), (4, .inl (nI z)), (5, .inl (nI k)), (6, .inl (nI w)), (7, .inl (nI (k + 1)))]) [4, 5, 6, 7, 8, 2, 1, 0] rfl ?_
            have e := sp_bst_first ew eb
            have q := nx (by omega) h3 Zh3 Fh3
            rw [e] at q
            exact q
          · exact absurd c98 (by decide)
  · have hb := sp_bst_lt (M := 100) (fun i x e => sp_pf_lt e) eb
    have hb1 := hb.1
    have hb2 := hb.2
    show jt_T 94 (51, [(0, .inr (.inr (0, 0, 0))), (1, .inl (nI c)), (2, .inl (nI p)), (3, .inl (nI y)), (4, .inl (nI z)), (5, .inl (nI b)), (6, .inl (nI v)), (7, .inl (nI k))], [], hm) _
    refine jt_go jm_m94 26 2 (f' := (55, [(0, .inr (.inr (0, 0, 0))), (1, .inl (nI c)), (2, .inl (nI p)), (3, .inl (nI y)), (4, .inl (nI z)), (5, .inl (nI b)), (6, .inl (nI v)), (7, .inl (nI k))], [.inl (nI 16), .inl (nI k)], hm)) (P := True) rfl trivial ?_
    refine jt_nicge jm_m94 28 (a := k) (b := 16) (by omega) (by omega) (tgt := 122) (nxt := 58) rfl rfl rfl (fun c55 => ?_) (fun c55 => ?_)
    · refine jt_go jm_m94 59 1 (f' := (124, [(0, .inr (.inr (0, 0, 0))), (1, .inl (nI c)), (2, .inl (nI p)), (3, .inl (nI y)), (4, .inl (nI z)), (5, .inl (nI b)), (6, .inl (nI v)), (7, .inl (nI k))], [.inl (nI z)], hm)) (P := True) rfl trivial ?_
      refine jt_nifne jm_m94 60 (by omega) (tgt := 132) (nxt := 127) rfl rfl rfl (fun c124 => ?_) (fun c124 => ?_)
      · refine jt_go jm_m94 63 1 (f' := (134, [(0, .inr (.inr (0, 0, 0))), (1, .inl (nI c)), (2, .inl (nI p)), (3, .inl (nI y)), (4, .inl (nI z)), (5, .inl (nI b)), (6, .inl (nI v)), (7, .inl (nI k))], [.inl (nI v)], hm)) (P := True) rfl trivial ?_
        refine jt_iret jm_m94 64 rfl ?_
        have e : k = 16 := by omega
        subst e
        refine ⟨jt_li ?_, Fm⟩
        rw [eb]
        first | (rw [if_pos (by assumption)]; rfl) | (rw [if_neg (by assumption)]; rfl) | (split <;> rfl)
      · refine jt_go jm_m94 61 2 (f' := (134, [(0, .inr (.inr (0, 0, 0))), (1, .inl (nI c)), (2, .inl (nI p)), (3, .inl (nI y)), (4, .inl (nI z)), (5, .inl (nI b)), (6, .inl (nI v)), (7, .inl (nI k))], [.inl (nI b)], hm)) (P := True) rfl trivial ?_
        refine jt_iret jm_m94 64 rfl ?_
        have e : k = 16 := by omega
        subst e
        refine ⟨jt_li ?_, Fm⟩
        rw [eb]
        first | (rw [if_pos (by assumption)]; rfl) | (rw [if_neg (by assumption)]; rfl) | (split <;> rfl)
    · refine jt_go jm_m94 29 4 (f' := (66, [(0, .inr (.inr (0, 0, 0))), (1, .inl (nI c)), (2, .inl (nI p)), (3, .inl (nI y)), (4, .inl (nI z)), (5, .inl (nI b)), (6, .inl (nI v)), (7, .inl (nI k))], [.inr (.inr (2, 0, 0)), .inr (.inr (2, 1, 0))], hm)) (P := True) rfl trivial ?_
      refine jt_call jm_m94 33 (mi' := 6) (as := [.inr (.inr (2, 1, 0)), .inr (.inr (2, 0, 0))]) (rest := []) (nxt := 69) rfl rfl jm_m6 rfl rfl (ta_becomes Zm W (by decide)) ?_
      rintro u h1 ⟨rfl, Rh1, Fh1⟩
      show jt_T 94 (69, [(0, .inr (.inr (0, 0, 0))), (1, .inl (nI c)), (2, .inl (nI p)), (3, .inl (nI y)), (4, .inl (nI z)), (5, .inl (nI b)), (6, .inl (nI v)), (7, .inl (nI k))], [], h1) _
      have Rh1 : jf_rel h1 1 g := Rh1
      have Wh1 : jw (g) := W
      have Zh1 := jf_mov0 Zm Fh1
      have Fh1 := jf_fr_tr Fm Fh1
      refine jt_go jm_m94 34 4 (f' := (76, [(0, .inr (.inr (0, 0, 0))), (1, .inl (nI c)), (2, .inl (nI p)), (3, .inl (nI y)), (4, .inl (nI z)), (5, .inl (nI b)), (6, .inl (nI v)), (7, .inl (nI k))], [.inl (nI y), .inl (nI k), .inr (.inr (2, 1, 0))], h1)) (P := True) rfl trivial ?_
      refine jt_call jm_m94 38 (mi' := 16) (as := [.inr (.inr (2, 1, 0)), .inl (nI k), .inl (nI y)]) (rest := []) (nxt := 79) rfl rfl jm_m16 rfl rfl (ta_addFish Rh1 Wh1 (by omega) (by omega)) ?_
      rintro u h2 ⟨rfl, Rh2, Fh2⟩
      show jt_T 94 (79, [(0, .inr (.inr (0, 0, 0))), (1, .inl (nI c)), (2, .inl (nI p)), (3, .inl (nI y)), (4, .inl (nI z)), (5, .inl (nI b)), (6, .inl (nI v)), (7, .inl (nI k))], [], h2) _
      have Rh2 : jf_rel h2 1 (sp_af g k y) := Rh2
      have Wh2 : jw (sp_af g k y) := jw_af Wh1 (by omega)
      have Zh2 := jf_mov0 Zh1 Fh2
      have Fh2 := jf_fr_tr Fh1 Fh2
      refine jt_go jm_m94 39 3 (f' := (82, [(0, .inr (.inr (0, 0, 0))), (1, .inl (nI c)), (2, .inl (nI p)), (3, .inl (nI y)), (4, .inl (nI z)), (5, .inl (nI b)), (6, .inl (nI v)), (7, .inl (nI k))], [.inl (nI p), .inl (nI c), .inr (.inr (0, 0, 0))], h2)) (P := True) rfl trivial ?_
      refine jt_call jm_m94 42 (mi' := 95) (as := [.inr (.inr (0, 0, 0)), .inl (nI c), .inl (nI p)]) (rest := []) (nxt := 85) rfl rfl jm_m95 rfl rfl (ca_tat Rh2 Wh2 (by rw [sp_af_ne (by decide)]; exact hc) hp) ?_
      rintro u h3 ⟨rfl, Fh3⟩
      show jt_T 94 (85, [(0, .inr (.inr (0, 0, 0))), (1, .inl (nI c)), (2, .inl (nI p)), (3, .inl (nI y)), (4, .inl (nI z)), (5, .inl (nI b)), (6, .inl (nI v)), (7, .inl (nI k))], [.inl (jo (sp_pf g c p y k))], h3) _
      have Zh3 := jf_mov0 Zh2 Fh3
      have Fh3 := jf_fr_tr Fh2 Fh3
      rcases ew : sp_pf g c p y k with _ | w
      · show jt_T 94 (85, [(0, .inr (.inr (0, 0, 0))), (1, .inl (nI c)), (2, .inl (nI p)), (3, .inl (nI y)), (4, .inl (nI z)), (5, .inl (nI b)), (6, .inl (nI v)), (7, .inl (nI k))], [.inl ((-4))], h3) _
        refine jt_go jm_m94 43 3 (f' := (91, [(8, .inl ((-4))), (0, .inr (.inr (0, 0, 0))), (1, .inl (nI c)), (2, .inl (nI p)), (3, .inl (nI y)), (4, .inl (nI z)), (5, .inl (nI b)), (6, .inl (nI v)), (7, .inl (nI k))], [.inl ((-4)), .inl ((-4))], h3)) (P := True) rfl trivial ?_
        refine jt_iceq jm_m94 46 (tgt := 116) (nxt := 94) rfl rfl rfl (fun c91 => ?_) (fun c91 => ?_)
        · refine jt_inc jm_m94 57 (c := k) (L' := [(7, .inl (nI (k + 1))), (8, .inl ((-4))), (0, .inr (.inr (0, 0, 0))), (1, .inl (nI c)), (2, .inl (nI p)), (3, .inl (nI y)), (4, .inl (nI z)), (5, .inl (nI b)), (6, .inl (nI v))]) rfl rfl rfl rfl ?_
          refine jt_go jm_m94 58 1 (f' := (51, [(7, .inl (nI (k + 1))), (8, .inl ((-4))), (0, .inr (.inr (0, 0, 0))), (1, .inl (nI c)), (2, .inl (nI p)), (3, .inl (nI y)), (4, .inl (nI z)), (5, .inl (nI b)), (6, .inl (nI v))], [], h3)) (P := True) rfl trivial ?_
          refine jt_pick (L' := [(0, .inr (.inr (0, 0, 0))), (1, .inl (nI c)), (2, .inl (nI p)), (3, .inl (nI y)), (4, .inl (nI z)), (5, .inl (nI b)), (6, .inl (nI v)), (7, .inl (nI (k + 1)))]) [2, 3, 4, 5, 6, 7, 8, 0] rfl ?_
          have e := sp_bst_none ew
          have q := nx (by omega) h3 Zh3 Fh3
          rw [e, eb] at q
          exact q
        · exact absurd c91 (by decide)
      · show jt_T 94 (85, [(0, .inr (.inr (0, 0, 0))), (1, .inl (nI c)), (2, .inl (nI p)), (3, .inl (nI y)), (4, .inl (nI z)), (5, .inl (nI b)), (6, .inl (nI v)), (7, .inl (nI k))], [.inl (nI w)], h3) _
        have hw := sp_pf_lt ew
        refine jt_go jm_m94 43 3 (f' := (91, [(8, .inl (nI w)), (0, .inr (.inr (0, 0, 0))), (1, .inl (nI c)), (2, .inl (nI p)), (3, .inl (nI y)), (4, .inl (nI z)), (5, .inl (nI b)), (6, .inl (nI v)), (7, .inl (nI k))], [.inl ((-4)), .inl (nI w)], h3)) (P := True) rfl trivial ?_
        refine jt_iceq jm_m94 46 (tgt := 116) (nxt := 94) rfl rfl rfl (fun c91 => ?_) (fun c91 => ?_)
        · exact absurd c91 (nI_nn4 (by omega))
        · refine jt_go jm_m94 47 2 (f' := (98, [(8, .inl (nI w)), (0, .inr (.inr (0, 0, 0))), (1, .inl (nI c)), (2, .inl (nI p)), (3, .inl (nI y)), (4, .inl (nI z)), (5, .inl (nI b)), (6, .inl (nI v)), (7, .inl (nI k))], [.inl ((-4)), .inl (nI b)], h3)) (P := True) rfl trivial ?_
          refine jt_iceq jm_m94 49 (tgt := 108) (nxt := 101) rfl rfl rfl (fun c98 => ?_) (fun c98 => ?_)
          · exact absurd c98 (nI_nn4 (by omega))
          · refine jt_go jm_m94 50 2 (f' := (105, [(8, .inl (nI w)), (0, .inr (.inr (0, 0, 0))), (1, .inl (nI c)), (2, .inl (nI p)), (3, .inl (nI y)), (4, .inl (nI z)), (5, .inl (nI b)), (6, .inl (nI v)), (7, .inl (nI k))], [.inl (nI v), .inl (nI w)], h3)) (P := True) rfl trivial ?_
            refine jt_nicge jm_m94 52 (a := w) (b := v) (by omega) (by omega) (tgt := 116) (nxt := 108) rfl rfl rfl (fun c105 => ?_) (fun c105 => ?_)
            · refine jt_inc jm_m94 57 (c := k) (L' := [(7, .inl (nI (k + 1))), (8, .inl (nI w)), (0, .inr (.inr (0, 0, 0))), (1, .inl (nI c)), (2, .inl (nI p)), (3, .inl (nI y)), (4, .inl (nI z)), (5, .inl (nI b)), (6, .inl (nI v))]) rfl rfl rfl rfl ?_
              refine jt_go jm_m94 58 1 (f' := (51, [(7, .inl (nI (k + 1))), (8, .inl (nI w)), (0, .inr (.inr (0, 0, 0))), (1, .inl (nI c)), (2, .inl (nI p)), (3, .inl (nI y)), (4, .inl (nI z)), (5, .inl (nI b)), (6, .inl (nI v))], [], h3)) (P := True) rfl trivial ?_
              refine jt_pick (L' := [(0, .inr (.inr (0, 0, 0))), (1, .inl (nI c)), (2, .inl (nI p)), (3, .inl (nI y)), (4, .inl (nI z)), (5, .inl (nI b)), (6, .inl (nI v)), (7, .inl (nI (k + 1)))]) [2, 3, 4, 5, 6, 7, 8, 0] rfl ?_
              have e := sp_bst_ge ew eb (by omega)
              have q := nx (by omega) h3 Zh3 Fh3
              rw [e] at q
              exact q
            · refine jt_go jm_m94 53 4 (f' := (116, [(6, .inl (nI w)), (5, .inl (nI k)), (8, .inl (nI w)), (0, .inr (.inr (0, 0, 0))), (1, .inl (nI c)), (2, .inl (nI p)), (3, .inl (nI y)), (4, .inl (nI z)), (7, .inl (nI k))], [], h3)) (P := True) rfl trivial ?_
              refine jt_inc jm_m94 57 (c := k) (L' := [(7, .inl (nI (k + 1))), (6, .inl (nI w)), (5, .inl (nI k)), (8, .inl (nI w)), (0, .inr (.inr (0, 0, 0))), (1, .inl (nI c)), (2, .inl (nI p)), (3, .inl (nI y)), (4, .inl (nI z))]) rfl rfl rfl rfl ?_
              refine jt_go jm_m94 58 1 (f' := (51, [(7, .inl (nI (k + 1))), (6, .inl (nI w)), (5, .inl (nI k)), (8, .inl (nI w)), (0, .inr (.inr (0, 0, 0))), (1, .inl (nI c)), (2, .inl (nI p)), (3, .inl (nI y)), (4, .inl (nI z))], [], h3)) (P := True) rfl trivial ?_
              refine jt_pick (L' := [(0, .inr (.inr (0, 0, 0))), (1, .inl (nI c)), (2, .inl (nI p)), (3, .inl (nI y)), (4, .inl (nI z)), (5, .inl (nI k)), (6, .inl (nI w)), (7, .inl (nI (k + 1)))]) [4, 5, 6, 7, 8, 2, 1, 0] rfl ?_
              have e := sp_bst_less ew eb (by omega)
              have q := nx (by omega) h3 Zh3 Fh3
              rw [e] at q
              exact q)
set_option maxHeartbeats 4000000 in
set_option maxRecDepth 20000 in
theorem cb_pf_l {h : jm_M} {g : Nat → Nat} (W : jw g) {c p y z : Nat} (hc : c < g 0) (hp : p < 16) (hy : y ≤ 9) (hz : z ≤ 1) : ∀ k, k ≤ 16 → ∀ hm : jm_M, (jg_rel hm 0 g) → (jg_fr 1 h hm) → jt_T 200 (48, [(0, .inr (.inr (4, 0, 0))), (1, .inl (nI c)), (2, .inl (nI p)), (3, .inl (nI y)), (4, .inl (nI z)), (5, .inl (jo1 (sp_bst (sp_pf g c p y) k))), (6, .inl (jfar (sp_bst (sp_pf g c p y) k))), (7, .inl (nI k))], [], hm) (fun u h' => u = some (.inl (if z = 0 then jo1 (sp_bst (sp_pf g c p y) (16)) else jo2 (sp_bst (sp_pf g c p y) (16)))) ∧ jg_fr 1 h h') := jx_up (P := fun k => ∀ hm : jm_M, (jg_rel hm 0 g) → (jg_fr 1 h hm) → jt_T 200 (48, [(0, .inr (.inr (4, 0, 0))), (1, .inl (nI c)), (2, .inl (nI p)), (3, .inl (nI y)), (4, .inl (nI z)), (5, .inl (jo1 (sp_bst (sp_pf g c p y) k))), (6, .inl (jfar (sp_bst (sp_pf g c p y) k))), (7, .inl (nI k))], [], hm) (fun u h' => u = some (.inl (if z = 0 then jo1 (sp_bst (sp_pf g c p y) (16)) else jo2 (sp_bst (sp_pf g c p y) (16)))) ∧ jg_fr 1 h h')) (fun k hk nx hm Zm Fm => by
  have bn := jw_n W
  have bm := jw_m W
  have bt := jw_t W
  rcases eb : sp_bst (sp_pf g c p y) k with _ | ⟨b, v⟩
  · skip
    show jt_T 200 (48, [(0, .inr (.inr (4, 0, 0))), (1, .inl (nI c)), (2, .inl (nI p)), (3, .inl (nI y)), (4, .inl (nI z)), (5, .inl ((-4))), (6, .inl (nI 1000000000)), (7, .inl (nI k))], [], hm) _
    refine jt_go jm_m200 25 2 (f' := (52, [(0, .inr (.inr (4, 0, 0))), (1, .inl (nI c)), (2, .inl (nI p)), (3, .inl (nI y)), (4, .inl (nI z)), (5, .inl ((-4))), (6, .inl (nI 1000000000)), (7, .inl (nI k))], [.inl (nI 16), .inl (nI k)], hm)) (P := True) rfl trivial ?_
    refine jt_nicge jm_m200 27 (a := k) (b := 16) (by omega) (by omega) (tgt := 113) (nxt := 55) rfl rfl rfl (fun c52 => ?_) (fun c52 => ?_)
    · refine jt_go jm_m200 55 1 (f' := (115, [(0, .inr (.inr (4, 0, 0))), (1, .inl (nI c)), (2, .inl (nI p)), (3, .inl (nI y)), (4, .inl (nI z)), (5, .inl ((-4))), (6, .inl (nI 1000000000)), (7, .inl (nI k))], [.inl ((-4))], hm)) (P := True) rfl trivial ?_
      refine jt_iflt jm_m200 56 (tgt := 123) (nxt := 118) rfl rfl rfl (fun c115 => ?_) (fun c115 => ?_)
      · refine jt_go jm_m200 59 2 (f' := (130, [(0, .inr (.inr (4, 0, 0))), (1, .inl (nI c)), (2, .inl (nI p)), (3, .inl (nI y)), (4, .inl (nI z)), (5, .inl ((-4))), (6, .inl (nI 1000000000)), (7, .inl (nI k))], [.inl ((-4))], hm)) (P := True) rfl trivial ?_
        refine jt_iret jm_m200 62 rfl ?_
        have e : k = 16 := by omega
        subst e
        refine ⟨jt_li ?_, Fm⟩
        rw [eb]
        first | (rw [if_pos (by assumption)]; rfl) | (rw [if_neg (by assumption)]; rfl) | (split <;> rfl)
      · exact absurd c115 (by decide)
    · refine jt_go jm_m200 28 4 (f' := (63, [(0, .inr (.inr (4, 0, 0))), (1, .inl (nI c)), (2, .inl (nI p)), (3, .inl (nI y)), (4, .inl (nI z)), (5, .inl ((-4))), (6, .inl (nI 1000000000)), (7, .inl (nI k))], [.inr (.inr (5, 1, 0)), .inr (.inr (5, 0, 0))], hm)) (P := True) rfl trivial ?_
      refine jt_call jm_m200 32 (mi' := 146) (as := [.inr (.inr (5, 0, 0)), .inr (.inr (5, 1, 0))]) (rest := []) (nxt := 66) rfl rfl jm_m146 rfl rfl (tb_copies Zm (by decide)) ?_
      rintro u h1 ⟨rfl, Rh1, Fh1⟩
      show jt_T 200 (66, [(0, .inr (.inr (4, 0, 0))), (1, .inl (nI c)), (2, .inl (nI p)), (3, .inl (nI y)), (4, .inl (nI z)), (5, .inl ((-4))), (6, .inl (nI 1000000000)), (7, .inl (nI k))], [], h1) _
      have Rh1 : jg_rel h1 1 g := Rh1
      have Wh1 : jw (g) := W
      have Zh1 := jg_mov0 Zm Fh1
      have Fh1 := jg_fr_tr Fm Fh1
      refine jt_go jm_m200 33 4 (f' := (73, [(0, .inr (.inr (4, 0, 0))), (1, .inl (nI c)), (2, .inl (nI p)), (3, .inl (nI y)), (4, .inl (nI z)), (5, .inl ((-4))), (6, .inl (nI 1000000000)), (7, .inl (nI k))], [.inl (nI y), .inl (nI k), .inr (.inr (5, 1, 0))], h1)) (P := True) rfl trivial ?_
      refine jt_call jm_m200 37 (mi' := 198) (as := [.inr (.inr (5, 1, 0)), .inl (nI k), .inl (nI y)]) (rest := []) (nxt := 76) rfl rfl jm_m198 rfl rfl (tb_addFish Rh1 Wh1 (by omega) (by omega)) ?_
      rintro u h2 ⟨rfl, Rh2, Fh2⟩
      show jt_T 200 (76, [(0, .inr (.inr (4, 0, 0))), (1, .inl (nI c)), (2, .inl (nI p)), (3, .inl (nI y)), (4, .inl (nI z)), (5, .inl ((-4))), (6, .inl (nI 1000000000)), (7, .inl (nI k))], [], h2) _
      have Rh2 : jg_rel h2 1 (sp_af g k y) := Rh2
      have Wh2 : jw (sp_af g k y) := jw_af Wh1 (by omega)
      have Zh2 := jg_mov0 Zh1 Fh2
      have Fh2 := jg_fr_tr Fh1 Fh2
      refine jt_go jm_m200 38 3 (f' := (79, [(0, .inr (.inr (4, 0, 0))), (1, .inl (nI c)), (2, .inl (nI p)), (3, .inl (nI y)), (4, .inl (nI z)), (5, .inl ((-4))), (6, .inl (nI 1000000000)), (7, .inl (nI k))], [.inl (nI p), .inl (nI c), .inr (.inr (4, 0, 0))], h2)) (P := True) rfl trivial ?_
      refine jt_call jm_m200 41 (mi' := 199) (as := [.inr (.inr (4, 0, 0)), .inl (nI c), .inl (nI p)]) (rest := []) (nxt := 82) rfl rfl jm_m199 rfl rfl (cb_tat Rh2 Wh2 (by rw [sp_af_ne (by decide)]; exact hc) hp) ?_
      rintro u h3 ⟨rfl, Fh3⟩
      show jt_T 200 (82, [(0, .inr (.inr (4, 0, 0))), (1, .inl (nI c)), (2, .inl (nI p)), (3, .inl (nI y)), (4, .inl (nI z)), (5, .inl ((-4))), (6, .inl (nI 1000000000)), (7, .inl (nI k))], [.inl (jo (sp_pf g c p y k))], h3) _
      have Zh3 := jg_mov0 Zh2 Fh3
      have Fh3 := jg_fr_tr Fh2 Fh3
      rcases ew : sp_pf g c p y k with _ | w
      · show jt_T 200 (82, [(0, .inr (.inr (4, 0, 0))), (1, .inl (nI c)), (2, .inl (nI p)), (3, .inl (nI y)), (4, .inl (nI z)), (5, .inl ((-4))), (6, .inl (nI 1000000000)), (7, .inl (nI k))], [.inl ((-4))], h3) _
        refine jt_go jm_m200 42 2 (f' := (86, [(8, .inl ((-4))), (0, .inr (.inr (4, 0, 0))), (1, .inl (nI c)), (2, .inl (nI p)), (3, .inl (nI y)), (4, .inl (nI z)), (5, .inl ((-4))), (6, .inl (nI 1000000000)), (7, .inl (nI k))], [.inl ((-4))], h3)) (P := True) rfl trivial ?_
        refine jt_iflt jm_m200 44 (tgt := 107) (nxt := 89) rfl rfl rfl (fun c86 => ?_) (fun c86 => ?_)
        · refine jt_inc jm_m200 53 (c := k) (L' := [(7, .inl (nI (k + 1))), (8, .inl ((-4))), (0, .inr (.inr (4, 0, 0))), (1, .inl (nI c)), (2, .inl (nI p)), (3, .inl (nI y)), (4, .inl (nI z)), (5, .inl ((-4))), (6, .inl (nI 1000000000))]) rfl rfl rfl rfl ?_
          refine jt_go jm_m200 54 1 (f' := (48, [(7, .inl (nI (k + 1))), (8, .inl ((-4))), (0, .inr (.inr (4, 0, 0))), (1, .inl (nI c)), (2, .inl (nI p)), (3, .inl (nI y)), (4, .inl (nI z)), (5, .inl ((-4))), (6, .inl (nI 1000000000))], [], h3)) (P := True) rfl trivial ?_
          refine jt_pick (L' := [(0, .inr (.inr (4, 0, 0))), (1, .inl (nI c)), (2, .inl (nI p)), (3, .inl (nI y)), (4, .inl (nI z)), (5, .inl ((-4))), (6, .inl (nI 1000000000)), (7, .inl (nI (k + 1)))]) [2, 3, 4, 5, 6, 7, 8, 0] rfl ?_
          have e := sp_bst_none ew
          have q := nx (by omega) h3 Zh3 Fh3
          rw [e, eb] at q
          exact q
        · exact absurd c86 (by decide)
      · show jt_T 200 (82, [(0, .inr (.inr (4, 0, 0))), (1, .inl (nI c)), (2, .inl (nI p)), (3, .inl (nI y)), (4, .inl (nI z)), (5, .inl ((-4))), (6, .inl (nI 1000000000)), (7, .inl (nI k))], [.inl (nI w)], h3) _
        have hw := sp_pf_lt ew
        refine jt_go jm_m200 42 2 (f' := (86, [(8, .inl (nI w)), (0, .inr (.inr (4, 0, 0))), (1, .inl (nI c)), (2, .inl (nI p)), (3, .inl (nI y)), (4, .inl (nI z)), (5, .inl ((-4))), (6, .inl (nI 1000000000)), (7, .inl (nI k))], [.inl (nI w)], h3)) (P := True) rfl trivial ?_
        refine jt_niflt jm_m200 44 (by omega) rfl rfl rfl (fun _ => ?_)
        refine jt_go jm_m200 45 2 (f' := (93, [(8, .inl (nI w)), (0, .inr (.inr (4, 0, 0))), (1, .inl (nI c)), (2, .inl (nI p)), (3, .inl (nI y)), (4, .inl (nI z)), (5, .inl ((-4))), (6, .inl (nI 1000000000)), (7, .inl (nI k))], [.inl (nI 1000000000), .inl (nI w)], h3)) (P := True) rfl trivial ?_
        refine jt_niclt jm_m200 47 (a := w) (b := 1000000000) (by omega) (by omega) (tgt := 99) (nxt := 96) rfl rfl rfl (fun c93 => ?_) (fun c93 => ?_)
        · refine jt_go jm_m200 49 4 (f' := (107, [(6, .inl (nI w)), (5, .inl (nI k)), (8, .inl (nI w)), (0, .inr (.inr (4, 0, 0))), (1, .inl (nI c)), (2, .inl (nI p)), (3, .inl (nI y)), (4, .inl (nI z)), (7, .inl (nI k))], [], h3)) (P := True) rfl trivial ?_
          refine jt_inc jm_m200 53 (c := k) (L' := [(7, .inl (nI (k + 1))), (6, .inl (nI w)), (5, .inl (nI k)), (8, .inl (nI w)), (0, .inr (.inr (4, 0, 0))), (1, .inl (nI c)), (2, .inl (nI p)), (3, .inl (nI y)), (4, .inl (nI z))]) rfl rfl rfl rfl ?_
          refine jt_go jm_m200 54 1 (f' := (48, [(7, .inl (nI (k + 1))), (6, .inl (nI w)), (5, .inl (nI k)), (8, .inl (nI w)), (0, .inr (.inr (4, 0, 0))), (1, .inl (nI c)), (2, .inl (nI p)), (3, .inl (nI y)), (4, .inl (nI z))], [], h3)) (P := True) rfl trivial ?_
          refine jt_pick (L' := [(0, .inr (.inr (4, 0, 0))), (1, .inl (nI c)), (2, .inl (nI p)), (3, .inl (nI y)), (4, .inl (nI z)), (5, .inl (nI k)), (6, .inl (nI w)), (7, .inl (nI (k + 1)))]) [4, 5, 6, 7, 8, 2, 1, 0] rfl ?_
          have e := sp_bst_first ew eb
          have q := nx (by omega) h3 Zh3 Fh3
          rw [e] at q
          exact q
        · refine jt_go jm_m200 48 1 (f' := (107, [(8, .inl (nI w)), (0, .inr (.inr (4, 0, 0))), (1, .inl (nI c)), (2, .inl (nI p)), (3, .inl (nI y)), (4, .inl (nI z)), (5, .inl ((-4))), (6, .inl (nI 1000000000)), (7, .inl (nI k))], [], h3)) (P := True) rfl trivial ?_
          refine jt_inc jm_m200 53 (c := k) (L' := [(7, .inl (nI (k + 1))), (8, .inl (nI w)), (0, .inr (.inr (4, 0, 0))), (1, .inl (nI c)), (2, .inl (nI p)), (3, .inl (nI y)), (4, .inl (nI z)), (5, .inl ((-4))), (6, .inl (nI 1000000000))]) rfl rfl rfl rfl ?_
          refine jt_go jm_m200 54 1 (f' := (48, [(7, .inl (nI (k + 1))), (8, .inl (nI w)), (0, .inr (.inr (4, 0, 0))), (1, .inl (nI c)), (2, .inl (nI p)), (3, .inl (nI y)), (4, .inl (nI z)), (5, .inl ((-4))), (6, .inl (nI 1000000000))], [], h3)) (P := True) rfl trivial ?_
          refine jt_pick (L' := [(0, .inr (.inr (4, 0, 0))), (1, .inl (nI c)), (2, .inl (nI p)), (3, .inl (nI y)), (4, .inl (nI z)), (5, .inl ((-4))), (6, .inl (nI 1000000000)), (7, .inl (nI (k + 1)))]) [2, 3, 4, 5, 6, 7, 8, 0] rfl ?_
          exfalso
          omega
  · have hb := sp_bst_lt (M := 100) (fun i x e => sp_pf_lt e) eb
    have hb1 := hb.1
    have hb2 := hb.2
    show jt_T 200 (48, [(0, .inr (.inr (4, 0, 0))), (1, .inl (nI c)), (2, .inl (nI p)), (3, .inl (nI y)), (4, .inl (nI z)), (5, .inl (nI b)), (6, .inl (nI v)), (7, .inl (nI k))], [], hm) _
    refine jt_go jm_m200 25 2 (f' := (52, [(0, .inr (.inr (4, 0, 0))), (1, .inl (nI c)), (2, .inl (nI p)), (3, .inl (nI y)), (4, .inl (nI z)), (5, .inl (nI b)), (6, .inl (nI v)), (7, .inl (nI k))], [.inl (nI 16), .inl (nI k)], hm)) (P := True) rfl trivial ?_
    refine jt_nicge jm_m200 27 (a := k) (b := 16) (by omega) (by omega) (tgt := 113) (nxt := 55) rfl rfl rfl (fun c52 => ?_) (fun c52 => ?_)
    · refine jt_go jm_m200 55 1 (f' := (115, [(0, .inr (.inr (4, 0, 0))), (1, .inl (nI c)), (2, .inl (nI p)), (3, .inl (nI y)), (4, .inl (nI z)), (5, .inl (nI b)), (6, .inl (nI v)), (7, .inl (nI k))], [.inl (nI b)], hm)) (P := True) rfl trivial ?_
      refine jt_niflt jm_m200 56 (by omega) rfl rfl rfl (fun _ => ?_)
      refine jt_go jm_m200 57 1 (f' := (120, [(0, .inr (.inr (4, 0, 0))), (1, .inl (nI c)), (2, .inl (nI p)), (3, .inl (nI y)), (4, .inl (nI z)), (5, .inl (nI b)), (6, .inl (nI v)), (7, .inl (nI k))], [.inl (nI z)], hm)) (P := True) rfl trivial ?_
      refine jt_nifne jm_m200 58 (by omega) (tgt := 128) (nxt := 123) rfl rfl rfl (fun c120 => ?_) (fun c120 => ?_)
      · refine jt_go jm_m200 61 1 (f' := (130, [(0, .inr (.inr (4, 0, 0))), (1, .inl (nI c)), (2, .inl (nI p)), (3, .inl (nI y)), (4, .inl (nI z)), (5, .inl (nI b)), (6, .inl (nI v)), (7, .inl (nI k))], [.inl (nI v)], hm)) (P := True) rfl trivial ?_
        refine jt_iret jm_m200 62 rfl ?_
        have e : k = 16 := by omega
        subst e
        refine ⟨jt_li ?_, Fm⟩
        rw [eb]
        first | (rw [if_pos (by assumption)]; rfl) | (rw [if_neg (by assumption)]; rfl) | (split <;> rfl)
      · refine jt_go jm_m200 59 2 (f' := (130, [(0, .inr (.inr (4, 0, 0))), (1, .inl (nI c)), (2, .inl (nI p)), (3, .inl (nI y)), (4, .inl (nI z)), (5, .inl (nI b)), (6, .inl (nI v)), (7, .inl (nI k))], [.inl (nI b)], hm)) (P := True) rfl trivial ?_
        refine jt_iret jm_m200 62 rfl ?_
        have e : k = 16 := by omega
        subst e
        refine ⟨jt_li ?_, Fm⟩
        rw [eb]
        first | (rw [if_pos (by assumption)]; rfl) | (rw [if_neg (by assumption)]; rfl) | (split <;> rfl)
    · refine jt_go jm_m200 28 4 (f' := (63, [(0, .inr (.inr (4, 0, 0))), (1, .inl (nI c)), (2, .inl (nI p)), (3, .inl (nI y)), (4, .inl (nI z)), (5, .inl (nI b)), (6, .inl (nI v)), (7, .inl (nI k))], [.inr (.inr (5, 1, 0)), .inr (.inr (5, 0, 0))], hm)) (P := True) rfl trivial ?_
      refine jt_call jm_m200 32 (mi' := 146) (as := [.inr (.inr (5, 0, 0)), .inr (.inr (5, 1, 0))]) (rest := []) (nxt := 66) rfl rfl jm_m146 rfl rfl (tb_copies Zm (by decide)) ?_
      rintro u h1 ⟨rfl, Rh1, Fh1⟩
      show jt_T 200 (66, [(0, .inr (.inr (4, 0, 0))), (1, .inl (nI c)), (2, .inl (nI p)), (3, .inl (nI y)), (4, .inl (nI z)), (5, .inl (nI b)), (6, .inl (nI v)), (7, .inl (nI k))], [], h1) _
      have Rh1 : jg_rel h1 1 g := Rh1
      have Wh1 : jw (g) := W
      have Zh1 := jg_mov0 Zm Fh1
      have Fh1 := jg_fr_tr Fm Fh1
      refine jt_go jm_m200 33 4 (f' := (73, [(0, .inr (.inr (4, 0, 0))), (1, .inl (nI c)), (2, .inl (nI p)), (3, .inl (nI y)), (4, .inl (nI z)), (5, .inl (nI b)), (6, .inl (nI v)), (7, .inl (nI k))], [.inl (nI y), .inl (nI k), .inr (.inr (5, 1, 0))], h1)) (P := True) rfl trivial ?_
      refine jt_call jm_m200 37 (mi' := 198) (as := [.inr (.inr (5, 1, 0)), .inl (nI k), .inl (nI y)]) (rest := []) (nxt := 76) rfl rfl jm_m198 rfl rfl (tb_addFish Rh1 Wh1 (by omega) (by omega)) ?_
      rintro u h2 ⟨rfl, Rh2, Fh2⟩
      show jt_T 200 (76, [(0, .inr (.inr (4, 0, 0))), (1, .inl (nI c)), (2, .inl (nI p)), (3, .inl (nI y)), (4, .inl (nI z)), (5, .inl (nI b)), (6, .inl (nI v)), (7, .inl (nI k))], [], h2) _
      have Rh2 : jg_rel h2 1 (sp_af g k y) := Rh2
      have Wh2 : jw (sp_af g k y) := jw_af Wh1 (by omega)
      have Zh2 := jg_mov0 Zh1 Fh2
      have Fh2 := jg_fr_tr Fh1 Fh2
      refine jt_go jm_m200 38 3 (f' := (79, [(0, .inr (.inr (4, 0, 0))), (1, .inl (nI c)), (2, .inl (nI p)), (3, .inl (nI y)), (4, .inl (nI z)), (5, .inl (nI b)), (6, .inl (nI v)), (7, .inl (nI k))], [.inl (nI p), .inl (nI c), .inr (.inr (4, 0, 0))], h2)) (P := True) rfl trivial ?_
      refine jt_call jm_m200 41 (mi' := 199) (as := [.inr (.inr (4, 0, 0)), .inl (nI c), .inl (nI p)]) (rest := []) (nxt := 82) rfl rfl jm_m199 rfl rfl (cb_tat Rh2 Wh2 (by rw [sp_af_ne (by decide)]; exact hc) hp) ?_
      rintro u h3 ⟨rfl, Fh3⟩
      show jt_T 200 (82, [(0, .inr (.inr (4, 0, 0))), (1, .inl (nI c)), (2, .inl (nI p)), (3, .inl (nI y)), (4, .inl (nI z)), (5, .inl (nI b)), (6, .inl (nI v)), (7, .inl (nI k))], [.inl (jo (sp_pf g c p y k))], h3) _
      have Zh3 := jg_mov0 Zh2 Fh3
      have Fh3 := jg_fr_tr Fh2 Fh3
      rcases ew : sp_pf g c p y k with _ | w
      · show jt_T 200 (82, [(0, .inr (.inr (4, 0, 0))), (1, .inl (nI c)), (2, .inl (nI p)), (3, .inl (nI y)), (4, .inl (nI z)), (5, .inl (nI b)), (6, .inl (nI v)), (7, .inl (nI k))], [.inl ((-4))], h3) _
        refine jt_go jm_m200 42 2 (f' := (86, [(8, .inl ((-4))), (0, .inr (.inr (4, 0, 0))), (1, .inl (nI c)), (2, .inl (nI p)), (3, .inl (nI y)), (4, .inl (nI z)), (5, .inl (nI b)), (6, .inl (nI v)), (7, .inl (nI k))], [.inl ((-4))], h3)) (P := True) rfl trivial ?_
        refine jt_iflt jm_m200 44 (tgt := 107) (nxt := 89) rfl rfl rfl (fun c86 => ?_) (fun c86 => ?_)
        · refine jt_inc jm_m200 53 (c := k) (L' := [(7, .inl (nI (k + 1))), (8, .inl ((-4))), (0, .inr (.inr (4, 0, 0))), (1, .inl (nI c)), (2, .inl (nI p)), (3, .inl (nI y)), (4, .inl (nI z)), (5, .inl (nI b)), (6, .inl (nI v))]) rfl rfl rfl rfl ?_
          refine jt_go jm_m200 54 1 (f' := (48, [(7, .inl (nI (k + 1))), (8, .inl ((-4))), (0, .inr (.inr (4, 0, 0))), (1, .inl (nI c)), (2, .inl (nI p)), (3, .inl (nI y)), (4, .inl (nI z)), (5, .inl (nI b)), (6, .inl (nI v))], [], h3)) (P := True) rfl trivial ?_
          refine jt_pick (L' := [(0, .inr (.inr (4, 0, 0))), (1, .inl (nI c)), (2, .inl (nI p)), (3, .inl (nI y)), (4, .inl (nI z)), (5, .inl (nI b)), (6, .inl (nI v)), (7, .inl (nI (k + 1)))]) [2, 3, 4, 5, 6, 7, 8, 0] rfl ?_
          have e := sp_bst_none ew
          have q := nx (by omega) h3 Zh3 Fh3
          rw [e, eb] at q
          exact q
        · exact absurd c86 (by decide)
      · show jt_T 200 (82, [(0, .inr (.inr (4, 0, 0))), (1, .inl (nI c)), (2, .inl (nI p)), (3, .inl (nI y)), (4, .inl (nI z)), (5, .inl (nI b)), (6, .inl (nI v)), (7, .inl (nI k))], [.inl (nI w)], h3) _
        have hw := sp_pf_lt ew
        refine jt_go jm_m200 42 2 (f' := (86, [(8, .inl (nI w)), (0, .inr (.inr (4, 0, 0))), (1, .inl (nI c)), (2, .inl (nI p)), (3, .inl (nI y)), (4, .inl (nI z)), (5, .inl (nI b)), (6, .inl (nI v)), (7, .inl (nI k))], [.inl (nI w)], h3)) (P := True) rfl trivial ?_
        refine jt_niflt jm_m200 44 (by omega) rfl rfl rfl (fun _ => ?_)
        refine jt_go jm_m200 45 2 (f' := (93, [(8, .inl (nI w)), (0, .inr (.inr (4, 0, 0))), (1, .inl (nI c)), (2, .inl (nI p)), (3, .inl (nI y)), (4, .inl (nI z)), (5, .inl (nI b)), (6, .inl (nI v)), (7, .inl (nI k))], [.inl (nI v), .inl (nI w)], h3)) (P := True) rfl trivial ?_
        refine jt_niclt jm_m200 47 (a := w) (b := v) (by omega) (by omega) (tgt := 99) (nxt := 96) rfl rfl rfl (fun c93 => ?_) (fun c93 => ?_)
        · refine jt_go jm_m200 49 4 (f' := (107, [(6, .inl (nI w)), (5, .inl (nI k)), (8, .inl (nI w)), (0, .inr (.inr (4, 0, 0))), (1, .inl (nI c)), (2, .inl (nI p)), (3, .inl (nI y)), (4, .inl (nI z)), (7, .inl (nI k))], [], h3)) (P := True) rfl trivial ?_
          refine jt_inc jm_m200 53 (c := k) (L' := [(7, .inl (nI (k + 1))), (6, .inl (nI w)), (5, .inl (nI k)), (8, .inl (nI w)), (0, .inr (.inr (4, 0, 0))), (1, .inl (nI c)), (2, .inl (nI p)), (3, .inl (nI y)), (4, .inl (nI z))]) rfl rfl rfl rfl ?_
          refine jt_go jm_m200 54 1 (f' := (48, [(7, .inl (nI (k + 1))), (6, .inl (nI w)), (5, .inl (nI k)), (8, .inl (nI w)), (0, .inr (.inr (4, 0, 0))), (1, .inl (nI c)), (2, .inl (nI p)), (3, .inl (nI y)), (4, .inl (nI z))], [], h3)) (P := True) rfl trivial ?_
          refine jt_pick (L' := [(0, .inr (.inr (4, 0, 0))), (1, .inl (nI c)), (2, .inl (nI p)), (3, .inl (nI y)), (4, .inl (nI z)), (5, .inl (nI k)), (6, .inl (nI w)), (7, .inl (nI (k + 1)))]) [4, 5, 6, 7, 8, 2, 1, 0] rfl ?_
          have e := sp_bst_less ew eb (by omega)
          have q := nx (by omega) h3 Zh3 Fh3
          rw [e] at q
          exact q
        · refine jt_go jm_m200 48 1 (f' := (107, [(8, .inl (nI w)), (0, .inr (.inr (4, 0, 0))), (1, .inl (nI c)), (2, .inl (nI p)), (3, .inl (nI y)), (4, .inl (nI z)), (5, .inl (nI b)), (6, .inl (nI v)), (7, .inl (nI k))], [], h3)) (P := True) rfl trivial ?_
          refine jt_inc jm_m200 53 (c := k) (L' := [(7, .inl (nI (k + 1))), (8, .inl (nI w)), (0, .inr (.inr (4, 0, 0))), (1, .inl (nI c)), (2, .inl (nI p)), (3, .inl (nI y)), (4, .inl (nI z)), (5, .inl (nI b)), (6, .inl (nI v))]) rfl rfl rfl rfl ?_
          refine jt_go jm_m200 54 1 (f' := (48, [(7, .inl (nI (k + 1))), (8, .inl (nI w)), (0, .inr (.inr (4, 0, 0))), (1, .inl (nI c)), (2, .inl (nI p)), (3, .inl (nI y)), (4, .inl (nI z)), (5, .inl (nI b)), (6, .inl (nI v))], [], h3)) (P := True) rfl trivial ?_
          refine jt_pick (L' := [(0, .inr (.inr (4, 0, 0))), (1, .inl (nI c)), (2, .inl (nI p)), (3, .inl (nI y)), (4, .inl (nI z)), (5, .inl (nI b)), (6, .inl (nI v)), (7, .inl (nI (k + 1)))]) [2, 3, 4, 5, 6, 7, 8, 0] rfl ?_
          have e := sp_bst_ge ew eb (by omega)
          have q := nx (by omega) h3 Zh3 Fh3
          rw [e] at q
          exact q)
def zb_putFish (g : Nat → Nat) (c p y1 z1 : Nat) : Int32 := if z1 = 0 then jo1 (sp_bst (sp_pf g c p y1) 16) else jo2 (sp_bst (sp_pf g c p y1) 16)
def za_putFish (g : Nat → Nat) (x y z w : Int32) : Int32 := if (nI 0 ≤ x ∧ x < nI (g 0)) ∧ (nI 0 ≤ y ∧ y ≤ nI 15) ∧ (nI 1 ≤ z ∧ z ≤ nI 9) ∧ (nI 0 ≤ w ∧ w ≤ nI 1) then zb_putFish g x.toNatClampNeg y.toNatClampNeg z.toNatClampNeg w.toNatClampNeg else (-1)
set_option maxHeartbeats 4000000 in
set_option maxRecDepth 20000 in
theorem ca_putFish {h : jm_M} {g : Nat → Nat} (R : jf_rel h 0 g) (W : jw g) {x y z w : Int32} : jt_T 94 (0, [(0, .inr (.inr (0, 0, 0))), (1, .inl (x)), (2, .inl (y)), (3, .inl (z)), (4, .inl (w))], [], h) (fun u h' => u = some (.inl (za_putFish g x y z w)) ∧ jf_fr 1 h h') := by
  have bn := jw_n W
  have bm := jw_m W
  have bt := jw_t W
  refine jt_go jm_m94 0 3 (f' := (5, [(0, .inr (.inr (0, 0, 0))), (1, .inl (x)), (2, .inl (y)), (3, .inl (z)), (4, .inl (w))], [.inl (x), .inr (.inr (2, 0, 0))], h)) (P := True) rfl trivial ?_
  refine jt_callp (w := .inl (jm_b (nI 0 ≤ x ∧ x < nI (g 0)))) jm_m94 3 (mi' := 7) (as := [.inr (.inr (2, 0, 0)), .inl (x)]) (rest := []) (nxt := 8) rfl rfl jm_m7 rfl rfl (ta_hasCat R W) ?_
  refine jt_ifbeq jm_m94 4 (tgt := 38) (nxt := 11) rfl rfl rfl (fun c8 => ?_) (fun c8 => ?_)
  · refine jt_go jm_m94 18 1 (f' := (39, [(0, .inr (.inr (0, 0, 0))), (1, .inl (x)), (2, .inl (y)), (3, .inl (z)), (4, .inl (w))], [.inl ((-1))], h)) (P := True) rfl trivial ?_
    refine jt_iret jm_m94 19 rfl ?_
    exact ⟨jt_li (if_neg (fun z => c8 z.1)).symm, jf_fr_rf⟩
  · obtain ⟨c, hbc, rfl⟩ := jx_cat (by omega) c8
    refine jt_go jm_m94 5 1 (f' := (12, [(0, .inr (.inr (0, 0, 0))), (1, .inl (nI c)), (2, .inl (y)), (3, .inl (z)), (4, .inl (w))], [.inl (y)], h)) (P := True) rfl trivial ?_
    refine jt_callp (w := .inl (jm_b (nI 0 ≤ y ∧ y ≤ nI 15))) jm_m94 6 (mi' := 138) (as := [.inl (y)]) (rest := []) (nxt := 15) rfl rfl jm_m138 rfl rfl (ta_place) ?_
    refine jt_ifbeq jm_m94 7 (tgt := 38) (nxt := 18) rfl rfl rfl (fun c15 => ?_) (fun c15 => ?_)
    · refine jt_go jm_m94 18 1 (f' := (39, [(0, .inr (.inr (0, 0, 0))), (1, .inl (nI c)), (2, .inl (y)), (3, .inl (z)), (4, .inl (w))], [.inl ((-1))], h)) (P := True) rfl trivial ?_
      refine jt_iret jm_m94 19 rfl ?_
      exact ⟨jt_li (if_neg (fun z => c15 z.2.1)).symm, jf_fr_rf⟩
    · obtain ⟨p, hbp, rfl⟩ := jx_win (by decide) c15
      refine jt_go jm_m94 8 3 (f' := (22, [(0, .inr (.inr (0, 0, 0))), (1, .inl (nI c)), (2, .inl (nI p)), (3, .inl (z)), (4, .inl (w))], [.inl (nI 9), .inl (nI 1), .inl (z)], h)) (P := True) rfl trivial ?_
      refine jt_callp (w := .inl (jm_b (nI 1 ≤ z ∧ z ≤ nI 9))) jm_m94 11 (mi' := 136) (as := [.inl (z), .inl (nI 1), .inl (nI 9)]) (rest := []) (nxt := 25) rfl rfl jm_m136 rfl rfl (ta_within) ?_
      refine jt_ifbeq jm_m94 12 (tgt := 38) (nxt := 28) rfl rfl rfl (fun c25 => ?_) (fun c25 => ?_)
      · refine jt_go jm_m94 18 1 (f' := (39, [(0, .inr (.inr (0, 0, 0))), (1, .inl (nI c)), (2, .inl (nI p)), (3, .inl (z)), (4, .inl (w))], [.inl ((-1))], h)) (P := True) rfl trivial ?_
        refine jt_iret jm_m94 19 rfl ?_
        exact ⟨jt_li (if_neg (fun z => c25 z.2.2.1)).symm, jf_fr_rf⟩
      · obtain ⟨y1, gy1, hby1, rfl⟩ := jx_win2 (by decide) (by decide) c25
        refine jt_go jm_m94 13 3 (f' := (32, [(0, .inr (.inr (0, 0, 0))), (1, .inl (nI c)), (2, .inl (nI p)), (3, .inl (nI y1)), (4, .inl (w))], [.inl (nI 1), .inl (nI 0), .inl (w)], h)) (P := True) rfl trivial ?_
        refine jt_callp (w := .inl (jm_b (nI 0 ≤ w ∧ w ≤ nI 1))) jm_m94 16 (mi' := 136) (as := [.inl (w), .inl (nI 0), .inl (nI 1)]) (rest := []) (nxt := 35) rfl rfl jm_m136 rfl rfl (ta_within) ?_
        refine jt_ifbne jm_m94 17 (tgt := 40) (nxt := 38) rfl rfl rfl (fun c35 => ?_) (fun c35 => ?_)
        · obtain ⟨z1, hbz1, rfl⟩ := jx_win (by decide) c35
          refine jt_go jm_m94 20 6 (f' := (51, [(7, .inl (nI 0)), (6, .inl ((-4))), (5, .inl ((-4))), (0, .inr (.inr (0, 0, 0))), (1, .inl (nI c)), (2, .inl (nI p)), (3, .inl (nI y1)), (4, .inl (nI z1))], [], h)) (P := True) rfl trivial ?_
          refine jt_pick (L' := [(0, .inr (.inr (0, 0, 0))), (1, .inl (nI c)), (2, .inl (nI p)), (3, .inl (nI y1)), (4, .inl (nI z1)), (5, .inl ((-4))), (6, .inl ((-4))), (7, .inl (nI 0))]) [3, 4, 5, 6, 7, 2, 1, 0] rfl ?_
          refine jt_mono (ca_pf_l W hbc (by omega) hby1 hbz1 0 (Nat.zero_le _) _ R jf_fr_rf) (fun u h2 zz => ⟨zz.1.trans (jt_li ?_), zz.2⟩)
          unfold za_putFish
          refine Eq.trans ?_ (if_pos ⟨c8, c15, c25, c35⟩).symm
          rw [nI_clamp (n := c) (by omega), nI_clamp (n := p) (by omega), nI_clamp (n := y1) (by omega), nI_clamp (n := z1) (by omega)]
          first | done | rfl
        · refine jt_go jm_m94 18 1 (f' := (39, [(0, .inr (.inr (0, 0, 0))), (1, .inl (nI c)), (2, .inl (nI p)), (3, .inl (nI y1)), (4, .inl (w))], [.inl ((-1))], h)) (P := True) rfl trivial ?_
          refine jt_iret jm_m94 19 rfl ?_
          exact ⟨jt_li (if_neg (fun z => c35 z.2.2.2)).symm, jf_fr_rf⟩
set_option maxHeartbeats 4000000 in
set_option maxRecDepth 20000 in
theorem cb_putFish {h : jm_M} {g : Nat → Nat} (R : jg_rel h 0 g) (W : jw g) {x y z w : Int32} : jt_T 200 (0, [(0, .inr (.inr (4, 0, 0))), (1, .inl (x)), (2, .inl (y)), (3, .inl (z)), (4, .inl (w))], [], h) (fun u h' => u = some (.inl (za_putFish g x y z w)) ∧ jg_fr 1 h h') := by
  have bn := jw_n W
  have bm := jw_m W
  have bt := jw_t W
  refine jt_go jm_m200 0 2 (f' := (2, [(0, .inr (.inr (4, 0, 0))), (1, .inl (x)), (2, .inl (y)), (3, .inl (z)), (4, .inl (w))], [.inl (x), .inr (.inr (4, 0, 0))], h)) (P := True) rfl trivial ?_
  refine jt_callp (w := .inl (jm_b (nI 0 ≤ x ∧ x < nI (g 0)))) jm_m200 2 (mi' := 149) (as := [.inr (.inr (4, 0, 0)), .inl (x)]) (rest := []) (nxt := 5) rfl rfl jm_m149 rfl rfl (tb_isCat R W) ?_
  refine jt_ifbeq jm_m200 3 (tgt := 35) (nxt := 8) rfl rfl rfl (fun c5 => ?_) (fun c5 => ?_)
  · refine jt_go jm_m200 17 1 (f' := (36, [(0, .inr (.inr (4, 0, 0))), (1, .inl (x)), (2, .inl (y)), (3, .inl (z)), (4, .inl (w))], [.inl ((-1))], h)) (P := True) rfl trivial ?_
    refine jt_iret jm_m200 18 rfl ?_
    exact ⟨jt_li (if_neg (fun z => c5 z.1)).symm, jg_fr_rf⟩
  · obtain ⟨c, hbc, rfl⟩ := jx_cat (by omega) c5
    refine jt_go jm_m200 4 1 (f' := (9, [(0, .inr (.inr (4, 0, 0))), (1, .inl (nI c)), (2, .inl (y)), (3, .inl (z)), (4, .inl (w))], [.inl (y)], h)) (P := True) rfl trivial ?_
    refine jt_callp (w := .inl (jm_b (nI 0 ≤ y ∧ y ≤ nI 15))) jm_m200 5 (mi' := 151) (as := [.inl (y)]) (rest := []) (nxt := 12) rfl rfl jm_m151 rfl rfl (tb_place) ?_
    refine jt_ifbeq jm_m200 6 (tgt := 35) (nxt := 15) rfl rfl rfl (fun c12 => ?_) (fun c12 => ?_)
    · refine jt_go jm_m200 17 1 (f' := (36, [(0, .inr (.inr (4, 0, 0))), (1, .inl (nI c)), (2, .inl (y)), (3, .inl (z)), (4, .inl (w))], [.inl ((-1))], h)) (P := True) rfl trivial ?_
      refine jt_iret jm_m200 18 rfl ?_
      exact ⟨jt_li (if_neg (fun z => c12 z.2.1)).symm, jg_fr_rf⟩
    · obtain ⟨p, hbp, rfl⟩ := jx_win (by decide) c12
      refine jt_go jm_m200 7 3 (f' := (19, [(0, .inr (.inr (4, 0, 0))), (1, .inl (nI c)), (2, .inl (nI p)), (3, .inl (z)), (4, .inl (w))], [.inl (nI 9), .inl (nI 1), .inl (z)], h)) (P := True) rfl trivial ?_
      refine jt_callp (w := .inl (jm_b (nI 1 ≤ z ∧ z ≤ nI 9))) jm_m200 10 (mi' := 143) (as := [.inl (z), .inl (nI 1), .inl (nI 9)]) (rest := []) (nxt := 22) rfl rfl jm_m143 rfl rfl (tb_isIn) ?_
      refine jt_ifbeq jm_m200 11 (tgt := 35) (nxt := 25) rfl rfl rfl (fun c22 => ?_) (fun c22 => ?_)
      · refine jt_go jm_m200 17 1 (f' := (36, [(0, .inr (.inr (4, 0, 0))), (1, .inl (nI c)), (2, .inl (nI p)), (3, .inl (z)), (4, .inl (w))], [.inl ((-1))], h)) (P := True) rfl trivial ?_
        refine jt_iret jm_m200 18 rfl ?_
        exact ⟨jt_li (if_neg (fun z => c22 z.2.2.1)).symm, jg_fr_rf⟩
      · obtain ⟨y1, gy1, hby1, rfl⟩ := jx_win2 (by decide) (by decide) c22
        refine jt_go jm_m200 12 3 (f' := (29, [(0, .inr (.inr (4, 0, 0))), (1, .inl (nI c)), (2, .inl (nI p)), (3, .inl (nI y1)), (4, .inl (w))], [.inl (nI 1), .inl (nI 0), .inl (w)], h)) (P := True) rfl trivial ?_
        refine jt_callp (w := .inl (jm_b (nI 0 ≤ w ∧ w ≤ nI 1))) jm_m200 15 (mi' := 143) (as := [.inl (w), .inl (nI 0), .inl (nI 1)]) (rest := []) (nxt := 32) rfl rfl jm_m143 rfl rfl (tb_isIn) ?_
        refine jt_ifbne jm_m200 16 (tgt := 37) (nxt := 35) rfl rfl rfl (fun c32 => ?_) (fun c32 => ?_)
        · obtain ⟨z1, hbz1, rfl⟩ := jx_win (by decide) c32
          refine jt_go jm_m200 19 6 (f' := (48, [(7, .inl (nI 0)), (6, .inl (nI 1000000000)), (5, .inl ((-4))), (0, .inr (.inr (4, 0, 0))), (1, .inl (nI c)), (2, .inl (nI p)), (3, .inl (nI y1)), (4, .inl (nI z1))], [], h)) (P := True) rfl trivial ?_
          refine jt_pick (L' := [(0, .inr (.inr (4, 0, 0))), (1, .inl (nI c)), (2, .inl (nI p)), (3, .inl (nI y1)), (4, .inl (nI z1)), (5, .inl ((-4))), (6, .inl (nI 1000000000)), (7, .inl (nI 0))]) [3, 4, 5, 6, 7, 2, 1, 0] rfl ?_
          refine jt_mono (cb_pf_l W hbc (by omega) hby1 hbz1 0 (Nat.zero_le _) _ R jg_fr_rf) (fun u h2 zz => ⟨zz.1.trans (jt_li ?_), zz.2⟩)
          unfold za_putFish
          refine Eq.trans ?_ (if_pos ⟨c5, c12, c22, c32⟩).symm
          rw [nI_clamp (n := c) (by omega), nI_clamp (n := p) (by omega), nI_clamp (n := y1) (by omega), nI_clamp (n := z1) (by omega)]
          first | done | rfl
        · refine jt_go jm_m200 17 1 (f' := (36, [(0, .inr (.inr (4, 0, 0))), (1, .inl (nI c)), (2, .inl (nI p)), (3, .inl (nI y1)), (4, .inl (w))], [.inl ((-1))], h)) (P := True) rfl trivial ?_
          refine jt_iret jm_m200 18 rfl ?_
          exact ⟨jt_li (if_neg (fun z => c32 z.2.2.2)).symm, jg_fr_rf⟩
