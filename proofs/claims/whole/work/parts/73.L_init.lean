theorem d_L_init_0 : decode b_L_init 0 = .ok (.aload_n 0, 1) := by decide +kernel
theorem d_L_init_1 : decode b_L_init 1 = .ok (.invokespecial 3, 3) := by decide +kernel
theorem d_L_init_4 : decode b_L_init 4 = .ok (.aload_n 0, 1) := by decide +kernel
theorem d_L_init_5 : decode b_L_init 5 = .ok (.sipush 301, 3) := by decide +kernel
theorem d_L_init_8 : decode b_L_init 8 = .ok (.newarray .int, 2) := by decide +kernel
theorem d_L_init_10 : decode b_L_init 10 = .ok (.putfield 9, 3) := by decide +kernel
theorem d_L_init_13 : decode b_L_init 13 = .ok (.aload_n 0, 1) := by decide +kernel
theorem d_L_init_14 : decode b_L_init 14 = .ok (.sipush 301, 3) := by decide +kernel
theorem d_L_init_17 : decode b_L_init 17 = .ok (.newarray .int, 2) := by decide +kernel
theorem d_L_init_19 : decode b_L_init 19 = .ok (.putfield 15, 3) := by decide +kernel
theorem d_L_init_22 : decode b_L_init 22 = .ok (.aload_n 0, 1) := by decide +kernel
theorem d_L_init_23 : decode b_L_init 23 = .ok (.sipush 301, 3) := by decide +kernel
theorem d_L_init_26 : decode b_L_init 26 = .ok (.newarray .int, 2) := by decide +kernel
theorem d_L_init_28 : decode b_L_init 28 = .ok (.putfield 18, 3) := by decide +kernel
theorem d_L_init_31 : decode b_L_init 31 = .ok (.aload_n 0, 1) := by decide +kernel
theorem d_L_init_32 : decode b_L_init 32 = .ok (.sipush 301, 3) := by decide +kernel
theorem d_L_init_35 : decode b_L_init 35 = .ok (.newarray .int, 2) := by decide +kernel
theorem d_L_init_37 : decode b_L_init 37 = .ok (.putfield 21, 3) := by decide +kernel
theorem d_L_init_40 : decode b_L_init 40 = .ok (.aload_n 0, 1) := by decide +kernel
theorem d_L_init_41 : decode b_L_init 41 = .ok (.sipush 301, 3) := by decide +kernel
theorem d_L_init_44 : decode b_L_init 44 = .ok (.newarray .int, 2) := by decide +kernel
theorem d_L_init_46 : decode b_L_init 46 = .ok (.putfield 24, 3) := by decide +kernel
theorem d_L_init_49 : decode b_L_init 49 = .ok (.aload_n 0, 1) := by decide +kernel
theorem d_L_init_50 : decode b_L_init 50 = .ok (.sipush 301, 3) := by decide +kernel
theorem d_L_init_53 : decode b_L_init 53 = .ok (.newarray .int, 2) := by decide +kernel
theorem d_L_init_55 : decode b_L_init 55 = .ok (.putfield 27, 3) := by decide +kernel
theorem d_L_init_58 : decode b_L_init 58 = .ok (.aload_n 0, 1) := by decide +kernel
theorem d_L_init_59 : decode b_L_init 59 = .ok (.sipush 301, 3) := by decide +kernel
theorem d_L_init_62 : decode b_L_init 62 = .ok (.newarray .int, 2) := by decide +kernel
theorem d_L_init_64 : decode b_L_init 64 = .ok (.putfield 30, 3) := by decide +kernel
theorem d_L_init_67 : decode b_L_init 67 = .ok (.aload_n 0, 1) := by decide +kernel
theorem d_L_init_68 : decode b_L_init 68 = .ok (.sipush 300, 3) := by decide +kernel
theorem d_L_init_71 : decode b_L_init 71 = .ok (.newarray .int, 2) := by decide +kernel
theorem d_L_init_73 : decode b_L_init 73 = .ok (.putfield 33, 3) := by decide +kernel
theorem d_L_init_76 : decode b_L_init 76 = .ok (.return_, 1) := by decide +kernel
theorem nd_L : ∀ j, j < 10 → defaultValue (tt_L j) = vp_V [.null, .null, .null, .null, .null, .null, .null, .null, .int 0, .int 0] j
  | 0, _ => rfl
  | 1, _ => rfl
  | 2, _ => rfl
  | 3, _ => rfl
  | 4, _ => rfl
  | 5, _ => rfl
  | 6, _ => rfl
  | 7, _ => rfl
  | 8, _ => rfl
  | 9, _ => rfl
  | n + 10, h => absurd h (by omega)
set_option maxHeartbeats 1000000 in
set_option maxRecDepth 100000 in
theorem c_L_init (l : Launch) (dC : Nat → ClassId) (dI : Nat → Nat → Nat) (cI cZ cQ : ClassId) (g0 : Nat) : vz_N l (dC, dI) classes [(cI, .int), (cZ, .boolean), (cQ, .object "BinTrees$Person")] y_L_init (Cond.code y_L_init b_L_init 1 none :: vz_tbl) ({ frames := 1, cells := 8, slots := 2407, locals := 12 }) [.ref g0] [(g0, .inr (1, [.null, .null, .null, .null, .null, .null, .null, .null, .int 0, .int 0]))] 8 2407 (fun _ => True) (fun w1 => ∃ g1 g2 g3 g4 g5 g6 g7 g8 : Nat, w1 = wL cI cZ g0 g1 g2 g3 g4 g5 g6 g7 g8 ((fun _ => 0), (fun _ => 0), (fun _ => 0), (fun _ => 0), (fun _ => 0), (fun _ => 0), (fun _ => 0), (fun _ => 0), 0, 0)) := by
  refine vz_N.of (by decide) (Nat.le_of_ble_eq_true rfl) ?_
  intro p e s m below meth c ls A E0 hl hin hK hE hA hP hD hS hAe
  obtain ⟨hx, hb, hr, hml, hown, hT, hlocks⟩ := E0
  have hl : lv_has ls 1 [(0, .ref g0)] := hl
  refine lv_aload_n hx hb d_L_init_0 rfl (lv_at hl 0 rfl) ?_
  refine W.objInit hx hb hown (hT _ kw_20) (hT _ kw_13) (hT _ kw_14) rfl (by rw [hml]; exact hl.1) rfl d_L_init_1 (Nat.le_of_ble_eq_true rfl) (Nat.le_of_ble_eq_true rfl) ?_
  refine W.eq (g2 := F0 m 4 ls []) rfl ?_
  refine lv_aload_n hx hb d_L_init_4 rfl (lv_at hl 0 rfl) ?_
  refine lv_sipush (v := 301) hx hb d_L_init_5 (by decide) ?_
  refine vz_newa (atype := .int) (a0 := (301, .inl (fun _ => 0))) hx hb (hT _ kw_68) rfl hK hP hD hS hA (fun _ => rfl) (by decide) rfl (by decide) (Nat.le_of_ble_eq_true rfl) (Nat.le_of_ble_eq_true rfl) d_L_init_8 0 rfl (fun _ h1 h2 => vz_raI h1 h2) (fun g1 H hP hD hS => ?_)
  have hP : va_P (dC, dI) classes [(g0, .inr (1, [.null, .null, .null, .null, .null, .null, .null, .null, .int 0, .int 0])), (g1, .inl (cI, 301, .inl (fun _ => 0)))] H := hP
  have hD : va_D A [(g0, .inr (1, [.null, .null, .null, .null, .null, .null, .null, .null, .int 0, .int 0])), (g1, .inl (cI, 301, .inl (fun _ => 0)))] := hD
  refine W.widen (k := 1) (n := 301) (Nat.le_of_ble_eq_true rfl) (Nat.le_of_ble_eq_true rfl) ?_
  refine va_putF (D := (dC, dI)) (ci := 1) (v := .ref g1) (ty := .array .int) (C := R_L) (T := F_L) (N := 10) hx hb hT i_L tt_L tt_L_ok n_L hown hK hP hD hS 0 rfl rfl 0 (by decide) (hT _ kw_21) (fun _ h9 => h9) rfl hin rfl (by decide +kernel) rfl rfl (Nat.le_of_ble_eq_true rfl) d_L_init_10 (fun H locs hP hD hS => ?_)
  have hP : va_P (dC, dI) classes [(g0, .inr (1, [.ref g1, .null, .null, .null, .null, .null, .null, .null, .int 0, .int 0])), (g1, .inl (cI, 301, .inl (fun _ => 0)))] H := hP
  have hD : va_D A [(g0, .inr (1, [.ref g1, .null, .null, .null, .null, .null, .null, .null, .int 0, .int 0])), (g1, .inl (cI, 301, .inl (fun _ => 0)))] := hD
  refine lv_aload_n hx hb d_L_init_13 rfl (lv_at hl 0 rfl) ?_
  refine lv_sipush (v := 301) hx hb d_L_init_14 (by decide) ?_
  refine vz_newa (atype := .int) (a0 := (301, .inl (fun _ => 0))) hx hb (hT _ kw_68) rfl hK hP hD hS hA (fun _ => rfl) (by decide) rfl (by decide) (Nat.le_of_ble_eq_true rfl) (Nat.le_of_ble_eq_true rfl) d_L_init_17 0 rfl (fun _ h1 h2 => vz_raI h1 h2) (fun g2 H hP hD hS => ?_)
  have hP : va_P (dC, dI) classes [(g0, .inr (1, [.ref g1, .null, .null, .null, .null, .null, .null, .null, .int 0, .int 0])), (g1, .inl (cI, 301, .inl (fun _ => 0))), (g2, .inl (cI, 301, .inl (fun _ => 0)))] H := hP
  have hD : va_D A [(g0, .inr (1, [.ref g1, .null, .null, .null, .null, .null, .null, .null, .int 0, .int 0])), (g1, .inl (cI, 301, .inl (fun _ => 0))), (g2, .inl (cI, 301, .inl (fun _ => 0)))] := hD
  refine W.widen (k := 2) (n := 602) (Nat.le_of_ble_eq_true rfl) (Nat.le_of_ble_eq_true rfl) ?_
  refine va_putF (D := (dC, dI)) (ci := 1) (v := .ref g2) (ty := .array .int) (C := R_L) (T := F_L) (N := 10) hx hb hT i_L tt_L tt_L_ok n_L hown hK hP hD hS 0 rfl rfl 1 (by decide) (hT _ kw_24) (fun _ h9 => h9) rfl hin rfl (by decide +kernel) rfl rfl (Nat.le_of_ble_eq_true rfl) d_L_init_19 (fun H locs hP hD hS => ?_)
  have hP : va_P (dC, dI) classes [(g0, .inr (1, [.ref g1, .ref g2, .null, .null, .null, .null, .null, .null, .int 0, .int 0])), (g1, .inl (cI, 301, .inl (fun _ => 0))), (g2, .inl (cI, 301, .inl (fun _ => 0)))] H := hP
  have hD : va_D A [(g0, .inr (1, [.ref g1, .ref g2, .null, .null, .null, .null, .null, .null, .int 0, .int 0])), (g1, .inl (cI, 301, .inl (fun _ => 0))), (g2, .inl (cI, 301, .inl (fun _ => 0)))] := hD
  refine lv_aload_n hx hb d_L_init_22 rfl (lv_at hl 0 rfl) ?_
  refine lv_sipush (v := 301) hx hb d_L_init_23 (by decide) ?_
  refine vz_newa (atype := .int) (a0 := (301, .inl (fun _ => 0))) hx hb (hT _ kw_68) rfl hK hP hD hS hA (fun _ => rfl) (by decide) rfl (by decide) (Nat.le_of_ble_eq_true rfl) (Nat.le_of_ble_eq_true rfl) d_L_init_26 0 rfl (fun _ h1 h2 => vz_raI h1 h2) (fun g3 H hP hD hS => ?_)
  have hP : va_P (dC, dI) classes [(g0, .inr (1, [.ref g1, .ref g2, .null, .null, .null, .null, .null, .null, .int 0, .int 0])), (g1, .inl (cI, 301, .inl (fun _ => 0))), (g2, .inl (cI, 301, .inl (fun _ => 0))), (g3, .inl (cI, 301, .inl (fun _ => 0)))] H := hP
  have hD : va_D A [(g0, .inr (1, [.ref g1, .ref g2, .null, .null, .null, .null, .null, .null, .int 0, .int 0])), (g1, .inl (cI, 301, .inl (fun _ => 0))), (g2, .inl (cI, 301, .inl (fun _ => 0))), (g3, .inl (cI, 301, .inl (fun _ => 0)))] := hD
  refine W.widen (k := 3) (n := 903) (Nat.le_of_ble_eq_true rfl) (Nat.le_of_ble_eq_true rfl) ?_
  refine va_putF (D := (dC, dI)) (ci := 1) (v := .ref g3) (ty := .array .int) (C := R_L) (T := F_L) (N := 10) hx hb hT i_L tt_L tt_L_ok n_L hown hK hP hD hS 0 rfl rfl 2 (by decide) (hT _ kw_26) (fun _ h9 => h9) rfl hin rfl (by decide +kernel) rfl rfl (Nat.le_of_ble_eq_true rfl) d_L_init_28 (fun H locs hP hD hS => ?_)
  have hP : va_P (dC, dI) classes [(g0, .inr (1, [.ref g1, .ref g2, .ref g3, .null, .null, .null, .null, .null, .int 0, .int 0])), (g1, .inl (cI, 301, .inl (fun _ => 0))), (g2, .inl (cI, 301, .inl (fun _ => 0))), (g3, .inl (cI, 301, .inl (fun _ => 0)))] H := hP
  have hD : va_D A [(g0, .inr (1, [.ref g1, .ref g2, .ref g3, .null, .null, .null, .null, .null, .int 0, .int 0])), (g1, .inl (cI, 301, .inl (fun _ => 0))), (g2, .inl (cI, 301, .inl (fun _ => 0))), (g3, .inl (cI, 301, .inl (fun _ => 0)))] := hD
  refine lv_aload_n hx hb d_L_init_31 rfl (lv_at hl 0 rfl) ?_
  refine lv_sipush (v := 301) hx hb d_L_init_32 (by decide) ?_
  refine vz_newa (atype := .int) (a0 := (301, .inl (fun _ => 0))) hx hb (hT _ kw_68) rfl hK hP hD hS hA (fun _ => rfl) (by decide) rfl (by decide) (Nat.le_of_ble_eq_true rfl) (Nat.le_of_ble_eq_true rfl) d_L_init_35 0 rfl (fun _ h1 h2 => vz_raI h1 h2) (fun g4 H hP hD hS => ?_)
  have hP : va_P (dC, dI) classes [(g0, .inr (1, [.ref g1, .ref g2, .ref g3, .null, .null, .null, .null, .null, .int 0, .int 0])), (g1, .inl (cI, 301, .inl (fun _ => 0))), (g2, .inl (cI, 301, .inl (fun _ => 0))), (g3, .inl (cI, 301, .inl (fun _ => 0))), (g4, .inl (cI, 301, .inl (fun _ => 0)))] H := hP
  have hD : va_D A [(g0, .inr (1, [.ref g1, .ref g2, .ref g3, .null, .null, .null, .null, .null, .int 0, .int 0])), (g1, .inl (cI, 301, .inl (fun _ => 0))), (g2, .inl (cI, 301, .inl (fun _ => 0))), (g3, .inl (cI, 301, .inl (fun _ => 0))), (g4, .inl (cI, 301, .inl (fun _ => 0)))] := hD
  refine W.widen (k := 4) (n := 1204) (Nat.le_of_ble_eq_true rfl) (Nat.le_of_ble_eq_true rfl) ?_
  refine va_putF (D := (dC, dI)) (ci := 1) (v := .ref g4) (ty := .array .int) (C := R_L) (T := F_L) (N := 10) hx hb hT i_L tt_L tt_L_ok n_L hown hK hP hD hS 0 rfl rfl 3 (by decide) (hT _ kw_29) (fun _ h9 => h9) rfl hin rfl (by decide +kernel) rfl rfl (Nat.le_of_ble_eq_true rfl) d_L_init_37 (fun H locs hP hD hS => ?_)
  have hP : va_P (dC, dI) classes [(g0, .inr (1, [.ref g1, .ref g2, .ref g3, .ref g4, .null, .null, .null, .null, .int 0, .int 0])), (g1, .inl (cI, 301, .inl (fun _ => 0))), (g2, .inl (cI, 301, .inl (fun _ => 0))), (g3, .inl (cI, 301, .inl (fun _ => 0))), (g4, .inl (cI, 301, .inl (fun _ => 0)))] H := hP
  have hD : va_D A [(g0, .inr (1, [.ref g1, .ref g2, .ref g3, .ref g4, .null, .null, .null, .null, .int 0, .int 0])), (g1, .inl (cI, 301, .inl (fun _ => 0))), (g2, .inl (cI, 301, .inl (fun _ => 0))), (g3, .inl (cI, 301, .inl (fun _ => 0))), (g4, .inl (cI, 301, .inl (fun _ => 0)))] := hD
  refine lv_aload_n hx hb d_L_init_40 rfl (lv_at hl 0 rfl) ?_
  refine lv_sipush (v := 301) hx hb d_L_init_41 (by decide) ?_
  refine vz_newa (atype := .int) (a0 := (301, .inl (fun _ => 0))) hx hb (hT _ kw_68) rfl hK hP hD hS hA (fun _ => rfl) (by decide) rfl (by decide) (Nat.le_of_ble_eq_true rfl) (Nat.le_of_ble_eq_true rfl) d_L_init_44 0 rfl (fun _ h1 h2 => vz_raI h1 h2) (fun g5 H hP hD hS => ?_)
  have hP : va_P (dC, dI) classes [(g0, .inr (1, [.ref g1, .ref g2, .ref g3, .ref g4, .null, .null, .null, .null, .int 0, .int 0])), (g1, .inl (cI, 301, .inl (fun _ => 0))), (g2, .inl (cI, 301, .inl (fun _ => 0))), (g3, .inl (cI, 301, .inl (fun _ => 0))), (g4, .inl (cI, 301, .inl (fun _ => 0))), (g5, .inl (cI, 301, .inl (fun _ => 0)))] H := hP
  have hD : va_D A [(g0, .inr (1, [.ref g1, .ref g2, .ref g3, .ref g4, .null, .null, .null, .null, .int 0, .int 0])), (g1, .inl (cI, 301, .inl (fun _ => 0))), (g2, .inl (cI, 301, .inl (fun _ => 0))), (g3, .inl (cI, 301, .inl (fun _ => 0))), (g4, .inl (cI, 301, .inl (fun _ => 0))), (g5, .inl (cI, 301, .inl (fun _ => 0)))] := hD
  refine W.widen (k := 5) (n := 1505) (Nat.le_of_ble_eq_true rfl) (Nat.le_of_ble_eq_true rfl) ?_
  refine va_putF (D := (dC, dI)) (ci := 1) (v := .ref g5) (ty := .array .int) (C := R_L) (T := F_L) (N := 10) hx hb hT i_L tt_L tt_L_ok n_L hown hK hP hD hS 0 rfl rfl 4 (by decide) (hT _ kw_32) (fun _ h9 => h9) rfl hin rfl (by decide +kernel) rfl rfl (Nat.le_of_ble_eq_true rfl) d_L_init_46 (fun H locs hP hD hS => ?_)
  have hP : va_P (dC, dI) classes [(g0, .inr (1, [.ref g1, .ref g2, .ref g3, .ref g4, .ref g5, .null, .null, .null, .int 0, .int 0])), (g1, .inl (cI, 301, .inl (fun _ => 0))), (g2, .inl (cI, 301, .inl (fun _ => 0))), (g3, .inl (cI, 301, .inl (fun _ => 0))), (g4, .inl (cI, 301, .inl (fun _ => 0))), (g5, .inl (cI, 301, .inl (fun _ => 0)))] H := hP
  have hD : va_D A [(g0, .inr (1, [.ref g1, .ref g2, .ref g3, .ref g4, .ref g5, .null, .null, .null, .int 0, .int 0])), (g1, .inl (cI, 301, .inl (fun _ => 0))), (g2, .inl (cI, 301, .inl (fun _ => 0))), (g3, .inl (cI, 301, .inl (fun _ => 0))), (g4, .inl (cI, 301, .inl (fun _ => 0))), (g5, .inl (cI, 301, .inl (fun _ => 0)))] := hD
  refine lv_aload_n hx hb d_L_init_49 rfl (lv_at hl 0 rfl) ?_
  refine lv_sipush (v := 301) hx hb d_L_init_50 (by decide) ?_
  refine vz_newa (atype := .int) (a0 := (301, .inl (fun _ => 0))) hx hb (hT _ kw_68) rfl hK hP hD hS hA (fun _ => rfl) (by decide) rfl (by decide) (Nat.le_of_ble_eq_true rfl) (Nat.le_of_ble_eq_true rfl) d_L_init_53 0 rfl (fun _ h1 h2 => vz_raI h1 h2) (fun g6 H hP hD hS => ?_)
  have hP : va_P (dC, dI) classes [(g0, .inr (1, [.ref g1, .ref g2, .ref g3, .ref g4, .ref g5, .null, .null, .null, .int 0, .int 0])), (g1, .inl (cI, 301, .inl (fun _ => 0))), (g2, .inl (cI, 301, .inl (fun _ => 0))), (g3, .inl (cI, 301, .inl (fun _ => 0))), (g4, .inl (cI, 301, .inl (fun _ => 0))), (g5, .inl (cI, 301, .inl (fun _ => 0))), (g6, .inl (cI, 301, .inl (fun _ => 0)))] H := hP
  have hD : va_D A [(g0, .inr (1, [.ref g1, .ref g2, .ref g3, .ref g4, .ref g5, .null, .null, .null, .int 0, .int 0])), (g1, .inl (cI, 301, .inl (fun _ => 0))), (g2, .inl (cI, 301, .inl (fun _ => 0))), (g3, .inl (cI, 301, .inl (fun _ => 0))), (g4, .inl (cI, 301, .inl (fun _ => 0))), (g5, .inl (cI, 301, .inl (fun _ => 0))), (g6, .inl (cI, 301, .inl (fun _ => 0)))] := hD
  refine W.widen (k := 6) (n := 1806) (Nat.le_of_ble_eq_true rfl) (Nat.le_of_ble_eq_true rfl) ?_
  refine va_putF (D := (dC, dI)) (ci := 1) (v := .ref g6) (ty := .array .int) (C := R_L) (T := F_L) (N := 10) hx hb hT i_L tt_L tt_L_ok n_L hown hK hP hD hS 0 rfl rfl 5 (by decide) (hT _ kw_35) (fun _ h9 => h9) rfl hin rfl (by decide +kernel) rfl rfl (Nat.le_of_ble_eq_true rfl) d_L_init_55 (fun H locs hP hD hS => ?_)
  have hP : va_P (dC, dI) classes [(g0, .inr (1, [.ref g1, .ref g2, .ref g3, .ref g4, .ref g5, .ref g6, .null, .null, .int 0, .int 0])), (g1, .inl (cI, 301, .inl (fun _ => 0))), (g2, .inl (cI, 301, .inl (fun _ => 0))), (g3, .inl (cI, 301, .inl (fun _ => 0))), (g4, .inl (cI, 301, .inl (fun _ => 0))), (g5, .inl (cI, 301, .inl (fun _ => 0))), (g6, .inl (cI, 301, .inl (fun _ => 0)))] H := hP
  have hD : va_D A [(g0, .inr (1, [.ref g1, .ref g2, .ref g3, .ref g4, .ref g5, .ref g6, .null, .null, .int 0, .int 0])), (g1, .inl (cI, 301, .inl (fun _ => 0))), (g2, .inl (cI, 301, .inl (fun _ => 0))), (g3, .inl (cI, 301, .inl (fun _ => 0))), (g4, .inl (cI, 301, .inl (fun _ => 0))), (g5, .inl (cI, 301, .inl (fun _ => 0))), (g6, .inl (cI, 301, .inl (fun _ => 0)))] := hD
  refine lv_aload_n hx hb d_L_init_58 rfl (lv_at hl 0 rfl) ?_
  refine lv_sipush (v := 301) hx hb d_L_init_59 (by decide) ?_
  refine vz_newa (atype := .int) (a0 := (301, .inl (fun _ => 0))) hx hb (hT _ kw_68) rfl hK hP hD hS hA (fun _ => rfl) (by decide) rfl (by decide) (Nat.le_of_ble_eq_true rfl) (Nat.le_of_ble_eq_true rfl) d_L_init_62 0 rfl (fun _ h1 h2 => vz_raI h1 h2) (fun g7 H hP hD hS => ?_)
  have hP : va_P (dC, dI) classes [(g0, .inr (1, [.ref g1, .ref g2, .ref g3, .ref g4, .ref g5, .ref g6, .null, .null, .int 0, .int 0])), (g1, .inl (cI, 301, .inl (fun _ => 0))), (g2, .inl (cI, 301, .inl (fun _ => 0))), (g3, .inl (cI, 301, .inl (fun _ => 0))), (g4, .inl (cI, 301, .inl (fun _ => 0))), (g5, .inl (cI, 301, .inl (fun _ => 0))), (g6, .inl (cI, 301, .inl (fun _ => 0))), (g7, .inl (cI, 301, .inl (fun _ => 0)))] H := hP
  have hD : va_D A [(g0, .inr (1, [.ref g1, .ref g2, .ref g3, .ref g4, .ref g5, .ref g6, .null, .null, .int 0, .int 0])), (g1, .inl (cI, 301, .inl (fun _ => 0))), (g2, .inl (cI, 301, .inl (fun _ => 0))), (g3, .inl (cI, 301, .inl (fun _ => 0))), (g4, .inl (cI, 301, .inl (fun _ => 0))), (g5, .inl (cI, 301, .inl (fun _ => 0))), (g6, .inl (cI, 301, .inl (fun _ => 0))), (g7, .inl (cI, 301, .inl (fun _ => 0)))] := hD
  refine W.widen (k := 7) (n := 2107) (Nat.le_of_ble_eq_true rfl) (Nat.le_of_ble_eq_true rfl) ?_
  refine va_putF (D := (dC, dI)) (ci := 1) (v := .ref g7) (ty := .array .int) (C := R_L) (T := F_L) (N := 10) hx hb hT i_L tt_L tt_L_ok n_L hown hK hP hD hS 0 rfl rfl 6 (by decide) (hT _ kw_38) (fun _ h9 => h9) rfl hin rfl (by decide +kernel) rfl rfl (Nat.le_of_ble_eq_true rfl) d_L_init_64 (fun H locs hP hD hS => ?_)
  have hP : va_P (dC, dI) classes [(g0, .inr (1, [.ref g1, .ref g2, .ref g3, .ref g4, .ref g5, .ref g6, .ref g7, .null, .int 0, .int 0])), (g1, .inl (cI, 301, .inl (fun _ => 0))), (g2, .inl (cI, 301, .inl (fun _ => 0))), (g3, .inl (cI, 301, .inl (fun _ => 0))), (g4, .inl (cI, 301, .inl (fun _ => 0))), (g5, .inl (cI, 301, .inl (fun _ => 0))), (g6, .inl (cI, 301, .inl (fun _ => 0))), (g7, .inl (cI, 301, .inl (fun _ => 0)))] H := hP
  have hD : va_D A [(g0, .inr (1, [.ref g1, .ref g2, .ref g3, .ref g4, .ref g5, .ref g6, .ref g7, .null, .int 0, .int 0])), (g1, .inl (cI, 301, .inl (fun _ => 0))), (g2, .inl (cI, 301, .inl (fun _ => 0))), (g3, .inl (cI, 301, .inl (fun _ => 0))), (g4, .inl (cI, 301, .inl (fun _ => 0))), (g5, .inl (cI, 301, .inl (fun _ => 0))), (g6, .inl (cI, 301, .inl (fun _ => 0))), (g7, .inl (cI, 301, .inl (fun _ => 0)))] := hD
  refine lv_aload_n hx hb d_L_init_67 rfl (lv_at hl 0 rfl) ?_
  refine lv_sipush (v := 300) hx hb d_L_init_68 (by decide) ?_
  refine vz_newa (atype := .int) (a0 := (300, .inl (fun _ => 0))) hx hb (hT _ kw_68) rfl hK hP hD hS hA (fun _ => rfl) (by decide) rfl (by decide) (Nat.le_of_ble_eq_true rfl) (Nat.le_of_ble_eq_true rfl) d_L_init_71 0 rfl (fun _ h1 h2 => vz_raI h1 h2) (fun g8 H hP hD hS => ?_)
  have hP : va_P (dC, dI) classes [(g0, .inr (1, [.ref g1, .ref g2, .ref g3, .ref g4, .ref g5, .ref g6, .ref g7, .null, .int 0, .int 0])), (g1, .inl (cI, 301, .inl (fun _ => 0))), (g2, .inl (cI, 301, .inl (fun _ => 0))), (g3, .inl (cI, 301, .inl (fun _ => 0))), (g4, .inl (cI, 301, .inl (fun _ => 0))), (g5, .inl (cI, 301, .inl (fun _ => 0))), (g6, .inl (cI, 301, .inl (fun _ => 0))), (g7, .inl (cI, 301, .inl (fun _ => 0))), (g8, .inl (cI, 300, .inl (fun _ => 0)))] H := hP
  have hD : va_D A [(g0, .inr (1, [.ref g1, .ref g2, .ref g3, .ref g4, .ref g5, .ref g6, .ref g7, .null, .int 0, .int 0])), (g1, .inl (cI, 301, .inl (fun _ => 0))), (g2, .inl (cI, 301, .inl (fun _ => 0))), (g3, .inl (cI, 301, .inl (fun _ => 0))), (g4, .inl (cI, 301, .inl (fun _ => 0))), (g5, .inl (cI, 301, .inl (fun _ => 0))), (g6, .inl (cI, 301, .inl (fun _ => 0))), (g7, .inl (cI, 301, .inl (fun _ => 0))), (g8, .inl (cI, 300, .inl (fun _ => 0)))] := hD
  refine W.widen (k := 8) (n := 2407) (Nat.le_of_ble_eq_true rfl) (Nat.le_of_ble_eq_true rfl) ?_
  refine va_putF (D := (dC, dI)) (ci := 1) (v := .ref g8) (ty := .array .int) (C := R_L) (T := F_L) (N := 10) hx hb hT i_L tt_L tt_L_ok n_L hown hK hP hD hS 0 rfl rfl 7 (by decide) (hT _ kw_40) (fun _ h9 => h9) rfl hin rfl (by decide +kernel) rfl rfl (Nat.le_of_ble_eq_true rfl) d_L_init_73 (fun H locs hP hD hS => ?_)
  have hP : va_P (dC, dI) classes [(g0, .inr (1, [.ref g1, .ref g2, .ref g3, .ref g4, .ref g5, .ref g6, .ref g7, .ref g8, .int 0, .int 0])), (g1, .inl (cI, 301, .inl (fun _ => 0))), (g2, .inl (cI, 301, .inl (fun _ => 0))), (g3, .inl (cI, 301, .inl (fun _ => 0))), (g4, .inl (cI, 301, .inl (fun _ => 0))), (g5, .inl (cI, 301, .inl (fun _ => 0))), (g6, .inl (cI, 301, .inl (fun _ => 0))), (g7, .inl (cI, 301, .inl (fun _ => 0))), (g8, .inl (cI, 300, .inl (fun _ => 0)))] H := hP
  have hD : va_D A [(g0, .inr (1, [.ref g1, .ref g2, .ref g3, .ref g4, .ref g5, .ref g6, .ref g7, .ref g8, .int 0, .int 0])), (g1, .inl (cI, 301, .inl (fun _ => 0))), (g2, .inl (cI, 301, .inl (fun _ => 0))), (g3, .inl (cI, 301, .inl (fun _ => 0))), (g4, .inl (cI, 301, .inl (fun _ => 0))), (g5, .inl (cI, 301, .inl (fun _ => 0))), (g6, .inl (cI, 301, .inl (fun _ => 0))), (g7, .inl (cI, 301, .inl (fun _ => 0))), (g8, .inl (cI, 300, .inl (fun _ => 0)))] := hD
  exact vz_nret hx hb hr hlocks d_L_init_76 hS hAe ⟨g1, g2, g3, g4, g5, g6, g7, g8, rfl⟩ hP hD rfl rfl
