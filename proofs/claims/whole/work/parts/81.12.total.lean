section LC12
variable {p : Program} {l : Launch} {e : Env} {s : State} {m : MethodId} {below : List Frame} {meth : Method} {c : Code} {dC : Nat → ClassId} {dI : Nat → Nat → Nat} {cI cZ cQ : ClassId} {b Ln : Nat} {xs : Nat → Int32} {a : Nat → Nat} {q : Nat → Option Nat} {L : cL} {F : Nat → cP} {M : cM} {cn md i : Nat} {H : Heap} {locs : List Loc} {ls : Array Slot}
set_option maxHeartbeats 1000000 in
set_option maxRecDepth 100000 in
theorem lc_total (C0 : lw_At p s m meth c b Ln xs) (hL : Ln ≤ 2560) (hq : ∀ n, n < 4 → q n = some (a (11 + 7 * n))) (hK : va_K (dC, dI) classes [(cI, .int), (cZ, .boolean), (cQ, .object "BinTrees$Person")] s) (hR : pREL L F M cn md) (hi : i + 5 ≤ Ln) (hP : va_P (dC, dI) classes (wLw cI cZ cQ a q L F M) H) (hD : va_D (fun q : Nat => s.heap.size ≤ q) (wLw cI cZ cQ a q L F M)) (hS : va_S (fun q : Nat => s.heap.size ≤ q) s.heap H locs) (hl : lv_has ls 4 [(3, .int (pq i)), (2, .ref (a 39)), (1, .ref (a 0)), (0, .ref b)]) (kk : ∀ (L' : cL) (F' : Nat → cP) (M' : cM) (c' md' : Nat) (H : Heap) (locs : List Loc), pREL L' F' M' c' md' → va_P (dC, dI) classes (wLw cI cZ cQ a q L' F' M') H → va_D (fun q : Nat => s.heap.size ≤ q) (wLw cI cZ cQ a q L' F' M') → va_S (fun q : Nat => s.heap.size ≤ q) s.heap H locs → W p l e room_1 s m #[Value.ref b] below meth c H locs 60 11776 (lw_Z below #[Value.ref b] s) (F0 m 565 ls [])) : W p l e room_1 s m #[Value.ref b] below meth c H locs 60 11776 (lw_Z below #[Value.ref b] s) (F0 m 542 ls []) := by
  obtain ⟨hx, hb, hr, hml, hown, hts, hX, hbl, hlocks, hgv⟩ := C0
  have hT : ∀ w ∈ vz_tbl, w.before #[Value.ref b] s = true := fun w hw => hts w (vz_lw hw)
  have hbA : ¬ (fun q : Nat => s.heap.size ≤ q) b := Nat.not_le.mpr hbl
  obtain ⟨x1, hx1⟩ : ∃ x, xs (pq i + 1).toNatClampNeg = x := ⟨_, rfl⟩
  obtain ⟨q1, q2, q3⟩ := q_total hR x1
  have hc := c_B_total l dC dI cI cZ cQ (a 0) (a 10) q (a 1) (a 2) (a 3) (a 4) (a 5) (a 6) (a 7) (a 8) (a 9) L (a (11 + 7 * (pI (x1 - x1 / 10 * 10)))) (a (12 + 7 * (pI (x1 - x1 / 10 * 10)))) (a (13 + 7 * (pI (x1 - x1 / 10 * 10)))) (a (14 + 7 * (pI (x1 - x1 / 10 * 10)))) (a (15 + 7 * (pI (x1 - x1 / 10 * 10)))) (a (16 + 7 * (pI (x1 - x1 / 10 * 10)))) (a (17 + 7 * (pI (x1 - x1 / 10 * 10)))) (F (pI (x1 - x1 / 10 * 10))) x1 (fun h1 h2 => by rw [← (pI_q ⟨h1, h2⟩).2]; exact hq _ (pI_4 _)) (pLog_okL hR.1.1) (hR.2.1 _ (pI_4 _)).1.1.1
  generalize hg : m_B_total L (F (pI (x1 - x1 / 10 * 10))) x1 = g at hc q2
  refine lv_aload_n hx hb d_law_542 rfl (lv_at hl 2 rfl) ?_
  refine lv_aload_n hx hb d_law_543 rfl (lv_at hl 3 rfl) ?_
  refine lv_iload_n hx hb d_law_544 rfl (lv_at hl 0 rfl) ?_
  refine lv_iconst (v := 1) hx hb d_law_545 (by decide) ?_
  refine lv_iadd hx hb d_law_546 ?_
  refine va_sld hx hb hX hbl hbA hS (i := pq i + 1) (lr_in (j := 1) (by omega) hL) d_law_547 ?_
  rw [hx1]
  refine vz_callV (As := [.int x1]) (rest := []) ⟨hx, hb, hml, hown, hT⟩ hc (vz_goodV kw_306 kw_307 kw_308 kw_1 kw_309) ⟨rfl, hd_B_total⟩ ⟨⟨rfl, rfl⟩, Nat.le_of_ble_eq_true rfl, Nat.le_of_ble_eq_true rfl⟩ hK hP hD hS (lr_i (pI (x1 - x1 / 10 * 10))) (lr_n1 _ (pI_4 _)) (lr_C1 cI cZ cQ a q L F M _ (pI_4 _)) rfl 0 3 rfl rfl rfl rfl hl.1 rfl (Nat.le_of_ble_eq_true rfl) ⟨Nat.le_of_ble_eq_true rfl, Nat.le_of_ble_eq_true rfl⟩ d_law_548 (fun H locs hP hD hS => ?_)
  have hP : va_P (dC, dI) classes (wLw cI cZ cQ a q L F M) H := vz_reP ((lr_U1 cI cZ cQ a q L F M L (F (pI (x1 - x1 / 10 * 10))) _ (pI_4 _)).trans (by rw [fU_id])) hP
  have hD : va_D (fun q : Nat => s.heap.size ≤ q) (wLw cI cZ cQ a q L F M) := vz_reD ((lr_U1 cI cZ cQ a q L F M L (F (pI (x1 - x1 / 10 * 10))) _ (pI_4 _)).trans (by rw [fU_id])) hD
  refine W.eq (g2 := F0 m 551 ls [.int g]) rfl ?_
  refine lv_aload_n hx hb d_law_551 rfl (lv_at hl 1 rfl) ?_
  refine lv_aload_n hx hb d_law_552 rfl (lv_at hl 3 rfl) ?_
  refine lv_iload_n hx hb d_law_553 rfl (lv_at hl 0 rfl) ?_
  refine lv_iconst (v := 1) hx hb d_law_554 (by decide) ?_
  refine lv_iadd hx hb d_law_555 ?_
  refine va_sld hx hb hX hbl hbA hS (i := pq i + 1) (lr_in (j := 1) (by omega) hL) d_law_556 ?_
  rw [hx1]
  have hm := c_M_total l dC dI cI cZ cQ (a 39) (a 40) (a 41) (a 42) (a 43) (a 44) (a 45) (a 46) (a 47) (a 48) (a 49) (a 50) (a 51) (a 52) (a 53) (a 54) (a 55) (a 56) (a 57) (a 58) (a 59) M x1 (pr_hyps hR).1 (pr_hyps hR).2.2 q1
  generalize hgm : m_M_total M x1 = gm at hm q2 q3
  refine vz_callV (As := [.int x1]) (rest := [.int g]) ⟨hx, hb, hml, hown, hT⟩ hm (vz_goodV kw_537 kw_538 kw_539 kw_5 kw_540) ⟨rfl, hd_M_total⟩ ⟨⟨rfl, rfl⟩, Nat.le_of_ble_eq_true rfl, Nat.le_of_ble_eq_true rfl⟩ hK hP hD hS lr_m rfl (lr_CM cI cZ cQ a q L F M) rfl 0 4 rfl rfl rfl rfl hl.1 rfl (Nat.le_of_ble_eq_true rfl) ⟨Nat.le_of_ble_eq_true rfl, Nat.le_of_ble_eq_true rfl⟩ d_law_557 (fun H locs hP hD hS => ?_)
  have hP : va_P (dC, dI) classes (wLw cI cZ cQ a q L F gm.2) H := vz_reP (lr_UM cI cZ cQ a q L F M gm.2) hP
  have hD : va_D (fun q : Nat => s.heap.size ≤ q) (wLw cI cZ cQ a q L F gm.2) := vz_reD (lr_UM cI cZ cQ a q L F M gm.2) hD
  refine W.eq (g2 := F0 m 560 ls [.int gm.1, .int g]) rfl ?_
  refine lv_icmp_eq (tgt := 565) hx hb d_law_560 (by decide) (fun _ => ?_) (fun c9 => absurd q2 c9)
  exact kk _ _ _ cn md H locs q3 hP hD hS
end LC12
