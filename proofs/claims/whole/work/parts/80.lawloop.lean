/-! THE LAW'S LOOP, from its head. -/
section LZ4
variable {p : Program} {l : Launch} {e : Env} {s : State} {m : MethodId} {below : List Frame} {meth : Method} {c : Code}
variable {D : va_G} {cs : Nat → ClassId} {cl : ClassId} {ad : jm_K → Nat} {qo b L : Nat} {xs : Nat → Int32}
set_option maxHeartbeats 4000000 in
theorem lz_loop (C0 : lw_At p s m meth c b L xs) (K0 : lz_K D cs cl s) (X0 : lz_X l s qo) (hL : L ≤ 3072) : ∀ (n i : Nat) (h : jm_M) (H : Heap) (locs : List Loc) (ls : Array Slot), i ≤ L + 6 → L < i + 6 * n → lv_has ls 8 (lz_L ad b qo i) → lz_W D cs cl ad qo s h H locs → jz h →
    W p l e room_1 s m #[Value.ref b] below meth c H locs (100 + i) (3000 + 6 * i) (lw_Z below #[Value.ref b] s) (F0 m 23 ls []) := by
  obtain ⟨hx, hb, hr0, hml, hown, hts0, hX, hbl, hlocks, hgv⟩ := id C0
  have hbA : ¬ (fun q : Nat => s.heap.size ≤ q) b := Nat.not_le.mpr hbl
  have hend : ∀ (i : Nat) (h : jm_M) (H : Heap) (locs : List Loc) (ls : Array Slot), i ≤ L + 6 → lz_W D cs cl ad qo s h H locs → W p l e room_1 s m #[Value.ref b] below meth c H locs (100 + i) (3000 + 6 * i) (lw_Z below #[Value.ref b] s) (F0 m 1826 ls []) := fun i h H locs ls hi Wd => by
    refine lv_iconst (pc := 1826) (n := 1) (v := 1) hx hb (show decode code 1826 = .ok (.iconst 1, 1) by decide +kernel) (by decide) ?_
    refine va_forget (fun q hq => Wd.2.2.2.2.2.2 q hq) ?_
    refine W.widen (k := 601024) (n := 7293034) (by omega) (by omega) ?_
    exact lw_ret hx hb hr0 hlocks (show decode code 1827 = .ok (.ireturn, 1) by decide +kernel)
  intro n
  induction n with
  | zero =>
    intro i h H locs ls hi hn hl Wd J
    refine lv_iload (pc := 23) hx hb (show decode code 23 = .ok (.iload 4, 2) by decide +kernel) (lv_at hl 4 rfl) ?_
    refine lv_aload_n (k := 0) hx hb (pc := 25) (show decode code 25 = .ok (.aload_n 0, 1) by decide +kernel) rfl (lv_at hl 0 rfl) ?_
    refine va_slen (pc := 26) hx hb hX hbl hbA Wd.2.2.2.2 (show decode code 26 = .ok (.arraylength, 1) by decide +kernel) ?_
    refine lv_bipush (pc := 27) (n := 6) (v := nI 6) hx hb (show decode code 27 = .ok (.bipush 6, 2) by decide +kernel) (by decide) ?_
    refine lv_isub (pc := 29) hx hb (show decode code 29 = .ok (.isub, 1) by decide +kernel) ?_
    refine lv_icmp_gt (pc := 30) (off := 1796) (tgt := 1826) hx hb (show decode code 30 = .ok (.if_icmp .gt 1796, 3) by decide +kernel) (by decide) (fun _ => ?_) (fun cz => ?_)
    · exact hend i h H locs ls hi Wd
    · have := lz_test hL (by omega) cz
      omega
  | succ n ih =>
    intro i h H locs ls hi hn hl Wd J
    refine lv_iload (pc := 23) hx hb (show decode code 23 = .ok (.iload 4, 2) by decide +kernel) (lv_at hl 4 rfl) ?_
    refine lv_aload_n (k := 0) hx hb (pc := 25) (show decode code 25 = .ok (.aload_n 0, 1) by decide +kernel) rfl (lv_at hl 0 rfl) ?_
    refine va_slen (pc := 26) hx hb hX hbl hbA Wd.2.2.2.2 (show decode code 26 = .ok (.arraylength, 1) by decide +kernel) ?_
    refine lv_bipush (pc := 27) (n := 6) (v := nI 6) hx hb (show decode code 27 = .ok (.bipush 6, 2) by decide +kernel) (by decide) ?_
    refine lv_isub (pc := 29) hx hb (show decode code 29 = .ok (.isub, 1) by decide +kernel) ?_
    refine lv_icmp_gt (pc := 30) (off := 1796) (tgt := 1826) hx hb (show decode code 30 = .ok (.if_icmp .gt 1796, 3) by decide +kernel) (by decide) (fun _ => ?_) (fun cz => ?_)
    · exact hend i h H locs ls hi Wd
    · have h6 := lz_test hL (by omega) cz
      refine lv_aload_n (k := 0) hx hb (pc := 33) (show decode code 33 = .ok (.aload_n 0, 1) by decide +kernel) rfl (lv_at hl 0 rfl) ?_
      refine lv_iload (pc := 34) hx hb (show decode code 34 = .ok (.iload 4, 2) by decide +kernel) (lv_at hl 4 rfl) ?_
      refine va_sld (pc := 36) hx hb hX hbl hbA Wd.2.2.2.2 (i := nI i) (vp_in_nI (by omega) (by omega)) (show decode code 36 = .ok (.iaload, 1) by decide +kernel) ?_
      refine lv_bipush (pc := 37) (n := 63) (v := nI 63) hx hb (show decode code 37 = .ok (.bipush 63, 2) by decide +kernel) (by decide) ?_
      refine lv_iand (pc := 39) hx hb (show decode code 39 = .ok (.iand, 1) by decide +kernel) ?_
      refine lz_turn C0 K0 X0 hL h6 hl Wd J ⟨by omega, by omega⟩ (fun h2 H1 locs1 ls1 hl1 J1 Wd1 => ?_)
      refine lv_iinc (pc := 1820) (i := 4) (n := 6) (k := 4) (x := nI i) (v := nI (i + 6)) (lv' := [(4, .int (nI (i + 6))), (0, .ref b), (1, .ref (ad (0, 0, 0))), (2, .ref (ad (4, 0, 0))), (3, .ref qo)]) hx hb (show decode code 1820 = .ok (.iinc 4 6, 3) by decide +kernel) hl1 rfl (nI_add i 6) (by decide) rfl (fun ls2 hl2 => ?_)
      refine lv_goto (pc := 1823) (off := -1800) (tgt := 23) hx hb (show decode code 1823 = .ok (.goto (-1800), 3) by decide +kernel) (by decide) ?_
      refine W.widen (k := 100 + (i + 6)) (n := 3000 + 6 * (i + 6)) (by omega) (by omega) ?_
      exact ih (i + 6) h2 H1 locs1 ls2 (by omega) (by omega) (lv_sub hl2 [1, 2, 3, 4, 0] rfl) Wd1 J1
end LZ4
