section LL
variable {p : Program} {l : Launch} {e : Env} {s : State} {m : MethodId} {below : List Frame} {meth : Method} {c : Code} {dC : Nat → ClassId} {dI : Nat → Nat → Nat} {cI cZ cQ : ClassId} {b Ln : Nat} {xs : Nat → Int32} {a : Nat → Nat} {q : Nat → Option Nat} {L : cL} {F : Nat → cP} {M : cM} {cn md i : Nat} {H : Heap} {locs : List Loc} {ls : Array Slot}
set_option maxHeartbeats 1000000 in
set_option maxRecDepth 100000 in
theorem law_loop (C0 : lw_At p s m meth c b Ln xs) (hL : Ln ≤ 2560) (hq : ∀ n, n < 4 → q n = some (a (11 + 7 * n))) (hK : va_K (dC, dI) classes [(cI, .int), (cZ, .boolean), (cQ, .object "BinTrees$Person")] s) : ∀ (k i : Nat), i ≤ Ln → Ln + 1 ≤ i + k → ∀ (L : cL) (F : Nat → cP) (M : cM) (cn md : Nat), pREL L F M cn md → ∀ (H : Heap) (locs : List Loc) (ls : Array Slot), va_P (dC, dI) classes (wLw cI cZ cQ a q L F M) H → va_D (fun q : Nat => s.heap.size ≤ q) (wLw cI cZ cQ a q L F M) → va_S (fun q : Nat => s.heap.size ≤ q) s.heap H locs → lv_has ls 4 [(3, .int (pq i)), (2, .ref (a 39)), (1, .ref (a 0)), (0, .ref b)] → W p l e room_1 s m #[Value.ref b] below meth c H locs 60 11776 (lw_Z below #[Value.ref b] s) (F0 m 18 ls []) := by
  intro k
  induction k with
  | zero => intro i h1 h2; omega
  | succ k ih =>
    intro i hi hk L F M cn md hR H locs ls hP hD hS hl
    obtain ⟨hx, hb, hr, hml, hown, hts, hX, hbl, hlocks, hgv⟩ := id C0
    have hbA : ¬ (fun q : Nat => s.heap.size ≤ q) b := Nat.not_le.mpr hbl
    refine lv_iload_n hx hb d_law_18 rfl (lv_at hl 0 rfl) ?_
    refine lv_aload_n hx hb d_law_19 rfl (lv_at hl 3 rfl) ?_
    refine va_slen hx hb hX hbl hbA hS d_law_20 ?_
    refine lv_iconst (v := 5) hx hb d_law_21 (by decide) ?_
    refine lv_isub hx hb d_law_22 ?_
    have hn5 : (Int32.ofNat Ln - 5).toInt = (Ln : Int) - 5 := by
      have h5 : (5 : Int32).toInt = 5 := by decide
      have hq : (Int32.ofNat Ln).toInt = Ln := pq_i (by omega)
      rw [ti_sub (by rw [hq, h5]; omega) (by rw [hq, h5]; omega), hq, h5]
    refine lv_icmp_gt (tgt := 571) hx hb d_law_23 (by decide) (fun c5 => ?_) (fun c5 => ?_)
    · refine lv_iconst (v := 1) hx hb d_law_571 (by decide) ?_
      refine va_forget (fun q hq => hS.2.2 q hq) ?_
      refine W.widen (k := 600000) (n := 7302250) (Nat.le_of_ble_eq_true rfl) (Nat.le_of_ble_eq_true rfl) ?_
      exact lw_ret hx hb hr hlocks d_law_572
    · have hi5 : i + 5 ≤ Ln := by
        have h9 := mt Int32.lt_iff_toInt_lt.mpr c5
        rw [hn5, pq_i (by omega)] at h9
        omega
      have kk : ∀ (L' : cL) (F' : Nat → cP) (M' : cM) (c' md' : Nat) (H : Heap) (locs : List Loc), pREL L' F' M' c' md' → va_P (dC, dI) classes (wLw cI cZ cQ a q L' F' M') H → va_D (fun q : Nat => s.heap.size ≤ q) (wLw cI cZ cQ a q L' F' M') → va_S (fun q : Nat => s.heap.size ≤ q) s.heap H locs → W p l e room_1 s m #[Value.ref b] below meth c H locs 60 11776 (lw_Z below #[Value.ref b] s) (F0 m 565 ls []) := by
        intro L' F' M' c' md' H locs hR hP hD hS
        refine lv_iinc (v := pq (i + 5)) (lv' := [(3, .int (pq (i + 5))), (2, .ref (a 39)), (1, .ref (a 0)), (0, .ref b)]) hx hb d_law_565 hl (k := 0) rfl (by rw [← pq_add]; rfl) (by decide) rfl (fun ls hl => ?_)
        refine lv_goto (tgt := 18) hx hb d_law_568 (by decide) ?_
        exact ih (i + 5) hi5 (by omega) _ _ _ _ _ hR H locs ls hP hD hS hl
      refine lv_aload_n hx hb d_law_26 rfl (lv_at hl 3 rfl) ?_
      refine lv_iload_n hx hb d_law_27 rfl (lv_at hl 0 rfl) ?_
      refine va_sld hx hb hX hbl hbA hS (i := pq i) (by have := lr_in (i := i) (j := 0) (Ln := Ln) (by omega) hL; rw [pq_add, Nat.add_zero] at this; exact this) d_law_28 ?_
      refine lv_bipush (v := 15) hx hb d_law_29 (by decide) ?_
      refine lv_iand hx hb d_law_31 ?_
      refine lv_topi (fun v ev => ?_)
      by_cases v_0 : v = 0
      · refine lv_tableIn (off := 68) (tgt := 100) hx hb d_law_32 (by rw [v_0]; decide) (by rw [v_0]; decide) (by rw [v_0]; decide) (by decide) ?_
        exact lc_make C0 hL hq hK hR hi5 hP hD hS hl kk
      by_cases v_1 : v = 1
      · refine lv_tableIn (off := 91) (tgt := 123) hx hb d_law_32 (by rw [v_1]; decide) (by rw [v_1]; decide) (by rw [v_1]; decide) (by decide) ?_
        exact lc_move C0 hL hq hK hR hi5 hP hD hS hl kk
      by_cases v_2 : v = 2
      · refine lv_tableIn (off := 144) (tgt := 176) hx hb d_law_32 (by rw [v_2]; decide) (by rw [v_2]; decide) (by rw [v_2]; decide) (by decide) ?_
        exact lc_remove C0 hL hq hK hR hi5 hP hD hS hl kk
      by_cases v_3 : v = 3
      · refine lv_tableIn (off := 203) (tgt := 235) hx hb d_law_32 (by rw [v_3]; decide) (by rw [v_3]; decide) (by rw [v_3]; decide) (by decide) ?_
        exact lc_undo C0 hL hq hK hR hi5 hP hD hS hl kk
      by_cases v_4 : v = 4
      · refine lv_tableIn (off := 236) (tgt := 268) hx hb d_law_32 (by rw [v_4]; decide) (by rw [v_4]; decide) (by rw [v_4]; decide) (by decide) ?_
        exact lc_see C0 hL hq hK hR hi5 hP hD hS hl kk
      by_cases v_5 : v = 5
      · refine lv_tableIn (off := 269) (tgt := 301) hx hb d_law_32 (by rw [v_5]; decide) (by rw [v_5]; decide) (by rw [v_5]; decide) (by decide) ?_
        exact lc_meet C0 hL hq hK hR hi5 hP hD hS hl kk
      by_cases v_6 : v = 6
      · refine lv_tableIn (off := 302) (tgt := 334) hx hb d_law_32 (by rw [v_6]; decide) (by rw [v_6]; decide) (by rw [v_6]; decide) (by decide) ?_
        exact lc_cost C0 hL hq hK hR hi5 hP hD hS hl kk
      by_cases v_7 : v = 7
      · refine lv_tableIn (off := 325) (tgt := 357) hx hb d_law_32 (by rw [v_7]; decide) (by rw [v_7]; decide) (by rw [v_7]; decide) (by decide) ?_
        exact lc_object C0 hL hq hK hR hi5 hP hD hS hl kk
      by_cases v_8 : v = 8
      · refine lv_tableIn (off := 368) (tgt := 400) hx hb d_law_32 (by rw [v_8]; decide) (by rw [v_8]; decide) (by rw [v_8]; decide) (by decide) ?_
        exact lc_child C0 hL hq hK hR hi5 hP hD hS hl kk
      by_cases v_9 : v = 9
      · refine lv_tableIn (off := 411) (tgt := 443) hx hb d_law_32 (by rw [v_9]; decide) (by rw [v_9]; decide) (by rw [v_9]; decide) (by decide) ?_
        exact lc_row C0 hL hq hK hR hi5 hP hD hS hl kk
      by_cases v_10 : v = 10
      · refine lv_tableIn (off := 444) (tgt := 476) hx hb d_law_32 (by rw [v_10]; decide) (by rw [v_10]; decide) (by rw [v_10]; decide) (by decide) ?_
        exact lc_judged C0 hL hq hK hR hi5 hP hD hS hl kk
      by_cases v_11 : v = 11
      · refine lv_tableIn (off := 477) (tgt := 509) hx hb d_law_32 (by rw [v_11]; decide) (by rw [v_11]; decide) (by rw [v_11]; decide) (by decide) ?_
        exact lc_alike C0 hL hq hK hR hi5 hP hD hS hl kk
      by_cases v_12 : v = 12
      · refine lv_tableIn (off := 510) (tgt := 542) hx hb d_law_32 (by rw [v_12]; decide) (by rw [v_12]; decide) (by rw [v_12]; decide) (by decide) ?_
        exact lc_total C0 hL hq hK hR hi5 hP hD hS hl kk
      refine lv_tableOut (tgt := 565) hx hb d_law_32 (by have h0 := lv_neT v_0 (by decide : (0 : Int32).toInt = 0); have h1 := lv_neT v_1 (by decide : (1 : Int32).toInt = 1); have h2 := lv_neT v_2 (by decide : (2 : Int32).toInt = 2); have h3 := lv_neT v_3 (by decide : (3 : Int32).toInt = 3); have h4 := lv_neT v_4 (by decide : (4 : Int32).toInt = 4); have h5 := lv_neT v_5 (by decide : (5 : Int32).toInt = 5); have h6 := lv_neT v_6 (by decide : (6 : Int32).toInt = 6); have h7 := lv_neT v_7 (by decide : (7 : Int32).toInt = 7); have h8 := lv_neT v_8 (by decide : (8 : Int32).toInt = 8); have h9 := lv_neT v_9 (by decide : (9 : Int32).toInt = 9); have h10 := lv_neT v_10 (by decide : (10 : Int32).toInt = 10); have h11 := lv_neT v_11 (by decide : (11 : Int32).toInt = 11); have h12 := lv_neT v_12 (by decide : (12 : Int32).toInt = 12); omega) (by decide) ?_
      exact kk L F M cn md H locs hR hP hD hS
end LL
