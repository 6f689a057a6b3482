theorem d_A_fill_0 : decode b_A_fill 0 = .ok (.iconst 0, 1) := by decide +kernel
theorem d_A_fill_1 : decode b_A_fill 1 = .ok (.istore_n 2, 1) := by decide +kernel
theorem d_A_fill_2 : decode b_A_fill 2 = .ok (.aload_n 0, 1) := by decide +kernel
theorem d_A_fill_3 : decode b_A_fill 3 = .ok (.arraylength, 1) := by decide +kernel
theorem d_A_fill_4 : decode b_A_fill 4 = .ok (.istore_n 3, 1) := by decide +kernel
theorem d_A_fill_5 : decode b_A_fill 5 = .ok (.iload_n 2, 1) := by decide +kernel
theorem d_A_fill_6 : decode b_A_fill 6 = .ok (.iload_n 3, 1) := by decide +kernel
theorem d_A_fill_7 : decode b_A_fill 7 = .ok (.if_icmp .ge 13, 3) := by decide +kernel
theorem d_A_fill_10 : decode b_A_fill 10 = .ok (.aload_n 0, 1) := by decide +kernel
theorem d_A_fill_11 : decode b_A_fill 11 = .ok (.iload_n 2, 1) := by decide +kernel
theorem d_A_fill_12 : decode b_A_fill 12 = .ok (.iload_n 1, 1) := by decide +kernel
theorem d_A_fill_13 : decode b_A_fill 13 = .ok (.bastore, 1) := by decide +kernel
theorem d_A_fill_14 : decode b_A_fill 14 = .ok (.iinc 2 1, 3) := by decide +kernel
theorem d_A_fill_17 : decode b_A_fill 17 = .ok (.goto (-12), 3) := by decide +kernel
theorem d_A_fill_20 : decode b_A_fill 20 = .ok (.return_, 1) := by decide +kernel
theorem hW_A_fill_13 (cI cZ cQ : ClassId) (q0 : Nat) (S0 : cA) (v : cA) : (wZ cI cZ q0 S0 : va_W).set 0 (q0, .inl (cZ, 40, .inl v)) = wZ cI cZ q0 v := rfl
def l_A_fill_5 (x1 : Int32) : Nat → Int32 → cA → cA
  | 0, _, g => g
  | n + 1, x2, g => (if 40 ≤ x2 then g else (l_A_fill_5 x1 n (x2 + 1) (upd g x2.toNatClampNeg (vp_nar .boolean x1))))
def m_A_fill (f : cA) (x1 : Int32) : cA := (l_A_fill_5 x1 41 0 f)
set_option maxHeartbeats 1000000 in
set_option maxRecDepth 100000 in
theorem c_A_fill (l : Launch) (dC : Nat → ClassId) (dI : Nat → Nat → Nat) (cI cZ cQ : ClassId) (z0 : Nat) (f : cA) (x1 : Int32)  : vz_C l (dC, dI) classes [(cI, .int), (cZ, .boolean), (cQ, .object "BinTrees$Person")] y_A_fill (Cond.code y_A_fill b_A_fill 4 none :: vz_tbl) ({ frames := 0, cells := 0, slots := 0, locals := 0 }) [.ref z0, .int x1] (wZ cI cZ z0 f) (none) (wZ cI cZ z0 (m_A_fill f x1)) := by
  generalize hres : (m_A_fill f x1) = RES
  refine vz_C.of (by decide) (Nat.le_of_ble_eq_true rfl) ?_
  intro p e s m below meth c ls E hl hK hP hD hS
  obtain ⟨hx, hb, hr, hml, hown, hT, hlocks⟩ := E
  obtain ⟨Q, hQ⟩ : ∃ Q, Q = MQ below (vz_Q (dC, dI) classes (wZ cI cZ z0 f) (none) (wZ cI cZ z0 RES)) ([.ref z0, .int x1] : List Value).toArray s 0 0 (vz_A (wZ cI cZ z0 f)) := ⟨_, rfl⟩
  rw [← hQ]
  have hl : lv_has ls 4 [(0, .ref z0), (1, .int x1)] := hl
  have T0 := ti_0
  have T1 := ti_1
  have Tm := ti_m1
  have T8 := ti_8
  have T39 := ti_39
  have T40 := ti_40
  have T4 := ti_4
  have T300 := ti_300
  have k_5 : ∀ (n : Nat) (x2 : Int32) (g : cA), l_A_fill_5 x1 n x2 g = RES → (0 ≤ x2.toInt ∧ x2.toInt ≤ 40 ∧ 40 < n + x2.toInt) → ∀ (H : Heap) (locs : List Loc) (ls : Array Slot), va_P (dC, dI) classes (wZ cI cZ z0 g) H → va_D (vz_A (wZ cI cZ z0 f)) (wZ cI cZ z0 g) → va_S (vz_A (wZ cI cZ z0 f)) s.heap H locs → lv_has ls 4 [(0, .ref z0), (1, .int x1), (2, .int x2), (3, .int 40)] → W p l e ({ frames := 0, cells := 0, slots := 0, locals := 0 }) s m ([.ref z0, .int x1] : List Value).toArray below meth c H locs 0 0 Q (F0 m 5 ls []) := by
    intro n
    induction n with
    | zero =>
      intro x2 g hres i2 H locs ls hP hD hS hl
      exfalso
      omega
    | succ n ih =>
      intro x2 g hres i2 H locs ls hP hD hS hl
      refine lv_iload_n hx hb d_A_fill_5 rfl (lv_at hl 2 rfl) ?_
      refine lv_iload_n hx hb d_A_fill_6 rfl (lv_at hl 3 rfl) ?_
      refine lv_icmp_ge (tgt := 20) hx hb d_A_fill_7 (by decide) (fun c_7 => ?_) (fun c_7 => ?_)
      · have z_7 := Int32.le_iff_toInt_le.mp c_7
        rw [l_A_fill_5, if_pos c_7] at hres
        subst hres
        subst hQ
        exact vz_vret hx hb hr hlocks d_A_fill_20 hS rfl hP
      · have z_7 := mt Int32.le_iff_toInt_le.mpr c_7
        refine lv_aload_n hx hb d_A_fill_10 rfl (lv_at hl 0 rfl) ?_
        refine lv_iload_n hx hb d_A_fill_11 rfl (lv_at hl 2 rfl) ?_
        refine lv_iload_n hx hb d_A_fill_12 rfl (lv_at hl 1 rfl) ?_
        refine va_zast hx hb hK hP hD hS 0 1 rfl rfl (ti_vp (by omega) (by omega)) d_A_fill_13 (fun H locs hP hD hS => ?_)
        have hP : va_P (dC, dI) classes (wZ cI cZ z0 (upd g x2.toNatClampNeg (vp_nar .boolean x1))) H := vz_reP (hW_A_fill_13 cI cZ cQ z0 g (upd g x2.toNatClampNeg (vp_nar .boolean x1))) hP
        have hD : va_D (vz_A (wZ cI cZ z0 f)) (wZ cI cZ z0 (upd g x2.toNatClampNeg (vp_nar .boolean x1))) := vz_reD (hW_A_fill_13 cI cZ cQ z0 g (upd g x2.toNatClampNeg (vp_nar .boolean x1))) hD
        refine lv_iinc (v := x2 + 1) (lv' := [(2, .int (x2 + 1)), (0, .ref z0), (1, .int x1), (3, .int 40)]) hx hb d_A_fill_14 hl (k := 2) rfl rfl (by decide) rfl (fun ls hl => ?_)
        refine lv_goto (tgt := 5) hx hb d_A_fill_17 (by decide) ?_
        rw [l_A_fill_5, if_neg c_7] at hres
        exact ih (x2 + 1) (upd g x2.toNatClampNeg (vp_nar .boolean x1))  hres (by rw [ti_inc (x := x2) (by omega)]; omega) H locs ls hP hD hS (lv_sub hl [1, 2, 0, 3] rfl)
  have hS0 := hS
  refine lv_iconst (v := 0) hx hb d_A_fill_0 (by decide) ?_
  refine lv_istore_n (lv' := [(2, .int 0), (0, .ref z0), (1, .int x1)]) hx hb d_A_fill_1 rfl hl (by decide) rfl (fun ls hl => ?_)
  refine lv_aload_n hx hb d_A_fill_2 rfl (lv_at hl 1 rfl) ?_
  refine va_alen (v := 40) hx hb hK hP 0 1 rfl rfl rfl d_A_fill_3 ?_
  refine lv_istore_n (lv' := [(3, .int 40), (2, .int 0), (0, .ref z0), (1, .int x1)]) hx hb d_A_fill_4 rfl hl (by decide) rfl (fun ls hl => ?_)
  rw [m_A_fill] at hres
  exact k_5 41 0 f  hres (by omega) _ _ ls hP hD hS (lv_sub hl [2, 3, 1, 0] rfl)
