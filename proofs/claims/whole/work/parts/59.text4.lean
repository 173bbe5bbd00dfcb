/-! TEXT: the first bad place. -/
/-- the first bad place from p on, over n statements at most -/
def tx_bad (s : Nat → Nat → Nat) (e : Nat → Nat → Int32) (d : Nat) : Nat → Nat → Option Nat
  | 0, _ => none
  | n + 1, p => match st_bad s e d p with
    | some q => some q
    | none => if p + dg (cc s e d p) + 2 < s d 4 then tx_bad s e d n (p + dg (cc s e d p) + 2) else none
def tx_v : Option Nat → Int32
  | some q => nI q
  | none => (-1)
theorem tk_bad_n {h : jm_M} {s : Nat → Nat → Nat} {e : Nat → Nat → Int32} (K : jk_rel h s e) (Y : kw s) (B : ke s e) {d : Nat} (hd : d ≤ 7) (qa : s d 0 = 2) (q3 : s d 3 = 0) : ∀ n p, s d 4 < p + n → p ≤ 100 → 0 < n → jt_T 58 (2, [(1, .inl (nI p)), (0, .inr (.inr (3, d, 0)))], [], h) (fun u h' => u = some (.inl (tx_v (tx_bad s e d n p))) ∧ h' = h)
  | 0, _, _, _, h0 => absurd h0 (by omega)
  | n + 1, p, h1, hp, _ => by
    have bz := kw_z Y (d := d) (by omega) qa
    refine tk_bad_s K Y B hd qa q3 hp (fun q1 q2 => ?_) (fun q q1 => ?_) (fun q1 q2 => ?_)
    · refine jt_mono (tk_bad_n K Y B hd qa q3 n (p + dg (cc s e d p) + 2) (by omega) (by omega) (by omega)) (fun u h2 z => ⟨z.1.trans (jt_li ?_), z.2⟩)
      have e_ : tx_bad s e d (n + 1) p = tx_bad s e d n (p + dg (cc s e d p) + 2) := by
        show (match st_bad s e d p with | some q => some q | none => if p + dg (cc s e d p) + 2 < s d 4 then tx_bad s e d n (p + dg (cc s e d p) + 2) else none) = _
        rw [q1]
        exact if_pos q2
      rw [e_]
    · have e_ : tx_bad s e d (n + 1) p = some q := by
        show (match st_bad s e d p with | some q => some q | none => if p + dg (cc s e d p) + 2 < s d 4 then tx_bad s e d n (p + dg (cc s e d p) + 2) else none) = _
        rw [q1]
      rw [e_]
      exact ⟨rfl, rfl⟩
    · have e_ : tx_bad s e d (n + 1) p = none := by
        show (match st_bad s e d p with | some q => some q | none => if p + dg (cc s e d p) + 2 < s d 4 then tx_bad s e d n (p + dg (cc s e d p) + 2) else none) = _
        rw [q1]
        exact if_neg q2
      rw [e_]
      exact ⟨rfl, rfl⟩
