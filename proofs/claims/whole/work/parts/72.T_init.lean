theorem d_T_init_0 : decode b_T_init 0 = .ok (.aload_n 0, 1) := by decide +kernel
theorem d_T_init_1 : decode b_T_init 1 = .ok (.invokespecial 3, 3) := by decide +kernel
theorem d_T_init_4 : decode b_T_init 4 = .ok (.aload_n 0, 1) := by decide +kernel
theorem d_T_init_5 : decode b_T_init 5 = .ok (.bipush 40, 2) := by decide +kernel
theorem d_T_init_7 : decode b_T_init 7 = .ok (.newarray .boolean, 2) := by decide +kernel
theorem d_T_init_9 : decode b_T_init 9 = .ok (.putfield 9, 3) := by decide +kernel
theorem d_T_init_12 : decode b_T_init 12 = .ok (.aload_n 0, 1) := by decide +kernel
theorem d_T_init_13 : decode b_T_init 13 = .ok (.bipush 40, 2) := by decide +kernel
theorem d_T_init_15 : decode b_T_init 15 = .ok (.newarray .int, 2) := by decide +kernel
theorem d_T_init_17 : decode b_T_init 17 = .ok (.putfield 15, 3) := by decide +kernel
theorem d_T_init_20 : decode b_T_init 20 = .ok (.aload_n 0, 1) := by decide +kernel
theorem d_T_init_21 : decode b_T_init 21 = .ok (.bipush 40, 2) := by decide +kernel
theorem d_T_init_23 : decode b_T_init 23 = .ok (.newarray .int, 2) := by decide +kernel
theorem d_T_init_25 : decode b_T_init 25 = .ok (.putfield 19, 3) := by decide +kernel
theorem d_T_init_28 : decode b_T_init 28 = .ok (.aload_n 0, 1) := by decide +kernel
theorem d_T_init_29 : decode b_T_init 29 = .ok (.bipush 40, 2) := by decide +kernel
theorem d_T_init_31 : decode b_T_init 31 = .ok (.newarray .int, 2) := by decide +kernel
theorem d_T_init_33 : decode b_T_init 33 = .ok (.putfield 22, 3) := by decide +kernel
theorem d_T_init_36 : decode b_T_init 36 = .ok (.aload_n 0, 1) := by decide +kernel
theorem d_T_init_37 : decode b_T_init 37 = .ok (.invokevirtual 25, 3) := by decide +kernel
theorem d_T_init_40 : decode b_T_init 40 = .ok (.return_, 1) := by decide +kernel
theorem nd_T : ∀ j, j < 5 → defaultValue (tt_T j) = vp_V [.null, .null, .null, .null, .int 0] j
  | 0, _ => rfl
  | 1, _ => rfl
  | 2, _ => rfl
  | 3, _ => rfl
  | 4, _ => rfl
  | n + 5, h => absurd h (by omega)
set_option maxHeartbeats 1000000 in
set_option maxRecDepth 100000 in
theorem c_T_init (l : Launch) (dC : Nat → ClassId) (dI : Nat → Nat → Nat) (cI cZ cQ : ClassId) (h0 : Nat) : vz_N l (dC, dI) classes [(cI, .int), (cZ, .boolean), (cQ, .object "BinTrees$Person")] y_T_init (Cond.code y_T_init b_T_init 1 none :: vz_tbl) ({ frames := 2, cells := 4, slots := 160, locals := 43 }) [.ref h0] [(h0, .inr (0, [.null, .null, .null, .null, .int 0]))] 4 160 (fun _ => True) (fun w1 => ∃ a1 a2 a3 a4 : Nat, w1 = wT cI cZ h0 a1 a2 a3 a4 (m_T_startAnew ((fun _ => 0), (fun _ => 0), (fun _ => 0), (fun _ => 0), 0))) := by
  refine vz_N.of (by decide) (Nat.le_of_ble_eq_true rfl) ?_
  intro p e s m below meth c ls A E0 hl hin hK hE hA hP hD hS hAe
  obtain ⟨hx, hb, hr, hml, hown, hT, hlocks⟩ := E0
  have hl : lv_has ls 1 [(0, .ref h0)] := hl
  refine lv_aload_n hx hb d_T_init_0 rfl (lv_at hl 0 rfl) ?_
  refine W.objInit hx hb hown (hT _ kw_81) (hT _ kw_13) (hT _ kw_14) rfl (by rw [hml]; exact hl.1) rfl d_T_init_1 (Nat.le_of_ble_eq_true rfl) (Nat.le_of_ble_eq_true rfl) ?_
  refine W.eq (g2 := F0 m 4 ls []) rfl ?_
  refine lv_aload_n hx hb d_T_init_4 rfl (lv_at hl 0 rfl) ?_
  refine lv_bipush (v := 40) hx hb d_T_init_5 (by decide) ?_
  refine vz_newa (atype := .boolean) (a0 := (40, .inl (fun _ => 0))) hx hb (hT _ kw_106) rfl hK hP hD hS hA (fun _ => rfl) (by decide) rfl (by decide) (Nat.le_of_ble_eq_true rfl) (Nat.le_of_ble_eq_true rfl) d_T_init_7 1 rfl (fun _ h1 h2 => vz_raZ h1 h2) (fun a1 H hP hD hS => ?_)
  have hP : va_P (dC, dI) classes [(h0, .inr (0, [.null, .null, .null, .null, .int 0])), (a1, .inl (cZ, 40, .inl (fun _ => 0)))] H := hP
  have hD : va_D A [(h0, .inr (0, [.null, .null, .null, .null, .int 0])), (a1, .inl (cZ, 40, .inl (fun _ => 0)))] := hD
  refine W.widen (k := 1) (n := 40) (Nat.le_of_ble_eq_true rfl) (Nat.le_of_ble_eq_true rfl) ?_
  refine va_putF (D := (dC, dI)) (ci := 0) (v := .ref a1) (ty := .array .boolean) (C := R_T) (T := F_T) (N := 5) hx hb hT i_T tt_T tt_T_ok n_T hown hK hP hD hS 0 rfl rfl 0 (by decide) (hT _ kw_86) (fun _ h9 => h9) rfl hin rfl (by decide +kernel) rfl rfl (Nat.le_of_ble_eq_true rfl) d_T_init_9 (fun H locs hP hD hS => ?_)
  have hP : va_P (dC, dI) classes [(h0, .inr (0, [.ref a1, .null, .null, .null, .int 0])), (a1, .inl (cZ, 40, .inl (fun _ => 0)))] H := hP
  have hD : va_D A [(h0, .inr (0, [.ref a1, .null, .null, .null, .int 0])), (a1, .inl (cZ, 40, .inl (fun _ => 0)))] := hD
  refine lv_aload_n hx hb d_T_init_12 rfl (lv_at hl 0 rfl) ?_
  refine lv_bipush (v := 40) hx hb d_T_init_13 (by decide) ?_
  refine vz_newa (atype := .int) (a0 := (40, .inl (fun _ => 0))) hx hb (hT _ kw_68) rfl hK hP hD hS hA (fun _ => rfl) (by decide) rfl (by decide) (Nat.le_of_ble_eq_true rfl) (Nat.le_of_ble_eq_true rfl) d_T_init_15 0 rfl (fun _ h1 h2 => vz_raI h1 h2) (fun a2 H hP hD hS => ?_)
  have hP : va_P (dC, dI) classes [(h0, .inr (0, [.ref a1, .null, .null, .null, .int 0])), (a1, .inl (cZ, 40, .inl (fun _ => 0))), (a2, .inl (cI, 40, .inl (fun _ => 0)))] H := hP
  have hD : va_D A [(h0, .inr (0, [.ref a1, .null, .null, .null, .int 0])), (a1, .inl (cZ, 40, .inl (fun _ => 0))), (a2, .inl (cI, 40, .inl (fun _ => 0)))] := hD
  refine W.widen (k := 2) (n := 80) (Nat.le_of_ble_eq_true rfl) (Nat.le_of_ble_eq_true rfl) ?_
  refine va_putF (D := (dC, dI)) (ci := 0) (v := .ref a2) (ty := .array .int) (C := R_T) (T := F_T) (N := 5) hx hb hT i_T tt_T tt_T_ok n_T hown hK hP hD hS 0 rfl rfl 1 (by decide) (hT _ kw_88) (fun _ h9 => h9) rfl hin rfl (by decide +kernel) rfl rfl (Nat.le_of_ble_eq_true rfl) d_T_init_17 (fun H locs hP hD hS => ?_)
  have hP : va_P (dC, dI) classes [(h0, .inr (0, [.ref a1, .ref a2, .null, .null, .int 0])), (a1, .inl (cZ, 40, .inl (fun _ => 0))), (a2, .inl (cI, 40, .inl (fun _ => 0)))] H := hP
  have hD : va_D A [(h0, .inr (0, [.ref a1, .ref a2, .null, .null, .int 0])), (a1, .inl (cZ, 40, .inl (fun _ => 0))), (a2, .inl (cI, 40, .inl (fun _ => 0)))] := hD
  refine lv_aload_n hx hb d_T_init_20 rfl (lv_at hl 0 rfl) ?_
  refine lv_bipush (v := 40) hx hb d_T_init_21 (by decide) ?_
  refine vz_newa (atype := .int) (a0 := (40, .inl (fun _ => 0))) hx hb (hT _ kw_68) rfl hK hP hD hS hA (fun _ => rfl) (by decide) rfl (by decide) (Nat.le_of_ble_eq_true rfl) (Nat.le_of_ble_eq_true rfl) d_T_init_23 0 rfl (fun _ h1 h2 => vz_raI h1 h2) (fun a3 H hP hD hS => ?_)
  have hP : va_P (dC, dI) classes [(h0, .inr (0, [.ref a1, .ref a2, .null, .null, .int 0])), (a1, .inl (cZ, 40, .inl (fun _ => 0))), (a2, .inl (cI, 40, .inl (fun _ => 0))), (a3, .inl (cI, 40, .inl (fun _ => 0)))] H := hP
  have hD : va_D A [(h0, .inr (0, [.ref a1, .ref a2, .null, .null, .int 0])), (a1, .inl (cZ, 40, .inl (fun _ => 0))), (a2, .inl (cI, 40, .inl (fun _ => 0))), (a3, .inl (cI, 40, .inl (fun _ => 0)))] := hD
  refine W.widen (k := 3) (n := 120) (Nat.le_of_ble_eq_true rfl) (Nat.le_of_ble_eq_true rfl) ?_
  refine va_putF (D := (dC, dI)) (ci := 0) (v := .ref a3) (ty := .array .int) (C := R_T) (T := F_T) (N := 5) hx hb hT i_T tt_T tt_T_ok n_T hown hK hP hD hS 0 rfl rfl 2 (by decide) (hT _ kw_90) (fun _ h9 => h9) rfl hin rfl (by decide +kernel) rfl rfl (Nat.le_of_ble_eq_true rfl) d_T_init_25 (fun H locs hP hD hS => ?_)
  have hP : va_P (dC, dI) classes [(h0, .inr (0, [.ref a1, .ref a2, .ref a3, .null, .int 0])), (a1, .inl (cZ, 40, .inl (fun _ => 0))), (a2, .inl (cI, 40, .inl (fun _ => 0))), (a3, .inl (cI, 40, .inl (fun _ => 0)))] H := hP
  have hD : va_D A [(h0, .inr (0, [.ref a1, .ref a2, .ref a3, .null, .int 0])), (a1, .inl (cZ, 40, .inl (fun _ => 0))), (a2, .inl (cI, 40, .inl (fun _ => 0))), (a3, .inl (cI, 40, .inl (fun _ => 0)))] := hD
  refine lv_aload_n hx hb d_T_init_28 rfl (lv_at hl 0 rfl) ?_
  refine lv_bipush (v := 40) hx hb d_T_init_29 (by decide) ?_
  refine vz_newa (atype := .int) (a0 := (40, .inl (fun _ => 0))) hx hb (hT _ kw_68) rfl hK hP hD hS hA (fun _ => rfl) (by decide) rfl (by decide) (Nat.le_of_ble_eq_true rfl) (Nat.le_of_ble_eq_true rfl) d_T_init_31 0 rfl (fun _ h1 h2 => vz_raI h1 h2) (fun a4 H hP hD hS => ?_)
  have hP : va_P (dC, dI) classes [(h0, .inr (0, [.ref a1, .ref a2, .ref a3, .null, .int 0])), (a1, .inl (cZ, 40, .inl (fun _ => 0))), (a2, .inl (cI, 40, .inl (fun _ => 0))), (a3, .inl (cI, 40, .inl (fun _ => 0))), (a4, .inl (cI, 40, .inl (fun _ => 0)))] H := hP
  have hD : va_D A [(h0, .inr (0, [.ref a1, .ref a2, .ref a3, .null, .int 0])), (a1, .inl (cZ, 40, .inl (fun _ => 0))), (a2, .inl (cI, 40, .inl (fun _ => 0))), (a3, .inl (cI, 40, .inl (fun _ => 0))), (a4, .inl (cI, 40, .inl (fun _ => 0)))] := hD
  refine W.widen (k := 4) (n := 160) (Nat.le_of_ble_eq_true rfl) (Nat.le_of_ble_eq_true rfl) ?_
  refine va_putF (D := (dC, dI)) (ci := 0) (v := .ref a4) (ty := .array .int) (C := R_T) (T := F_T) (N := 5) hx hb hT i_T tt_T tt_T_ok n_T hown hK hP hD hS 0 rfl rfl 3 (by decide) (hT _ kw_92) (fun _ h9 => h9) rfl hin rfl (by decide +kernel) rfl rfl (Nat.le_of_ble_eq_true rfl) d_T_init_33 (fun H locs hP hD hS => ?_)
  have hP : va_P (dC, dI) classes [(h0, .inr (0, [.ref a1, .ref a2, .ref a3, .ref a4, .int 0])), (a1, .inl (cZ, 40, .inl (fun _ => 0))), (a2, .inl (cI, 40, .inl (fun _ => 0))), (a3, .inl (cI, 40, .inl (fun _ => 0))), (a4, .inl (cI, 40, .inl (fun _ => 0)))] H := hP
  have hD : va_D A [(h0, .inr (0, [.ref a1, .ref a2, .ref a3, .ref a4, .int 0])), (a1, .inl (cZ, 40, .inl (fun _ => 0))), (a2, .inl (cI, 40, .inl (fun _ => 0))), (a3, .inl (cI, 40, .inl (fun _ => 0))), (a4, .inl (cI, 40, .inl (fun _ => 0)))] := hD
  refine lv_aload_n hx hb d_T_init_36 rfl (lv_at hl 0 rfl) ?_
  have hc := c_T_startAnew l dC dI cI cZ cQ h0 a1 a2 a3 a4 ((fun _ => 0), (fun _ => 0), (fun _ => 0), (fun _ => 0), 0)
  generalize hg : m_T_startAnew ((fun _ => 0), (fun _ => 0), (fun _ => 0), (fun _ => 0), 0) = g at hc
  refine vz_callV (As := []) (rest := []) ⟨hx, hb, hml, hown, hT⟩ hc (vz_goodV kw_82 kw_83 kw_84 kw_4 kw_85) ⟨rfl, hd_T_startAnew⟩ ⟨⟨rfl, rfl⟩, Nat.le_of_ble_eq_true rfl, Nat.le_of_ble_eq_true rfl⟩ hK hP hD hS (List.range' 0 5) rfl (vz_allC _ 5 rfl) rfl 0 0 rfl rfl rfl rfl hl.1 rfl (Nat.le_of_ble_eq_true rfl) ⟨Nat.le_of_ble_eq_true rfl, Nat.le_of_ble_eq_true rfl⟩ d_T_init_37 (fun H locs hP hD hS => ?_)
  have hP : va_P (dC, dI) classes (wT cI cZ h0 a1 a2 a3 a4 g) H := vz_reP (vz_allU _ _ 5 rfl rfl) hP
  have hD : va_D A (wT cI cZ h0 a1 a2 a3 a4 g) := vz_reD (vz_allU _ _ 5 rfl rfl) hD
  refine W.eq (g2 := F0 m 40 ls []) rfl ?_
  exact vz_nret hx hb hr hlocks d_T_init_40 hS hAe ⟨a1, a2, a3, a4, by first | rw [hg] | rfl⟩ hP hD rfl rfl
