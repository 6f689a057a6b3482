theorem d_P_init_0 : decode b_P_init 0 = .ok (.aload_n 0, 1) := by decide +kernel
theorem d_P_init_1 : decode b_P_init 1 = .ok (.invokespecial 3, 3) := by decide +kernel
theorem d_P_init_4 : decode b_P_init 4 = .ok (.aload_n 0, 1) := by decide +kernel
theorem d_P_init_5 : decode b_P_init 5 = .ok (.sipush 301, 3) := by decide +kernel
theorem d_P_init_8 : decode b_P_init 8 = .ok (.newarray .int, 2) := by decide +kernel
theorem d_P_init_10 : decode b_P_init 10 = .ok (.putfield 9, 3) := by decide +kernel
theorem d_P_init_13 : decode b_P_init 13 = .ok (.aload_n 0, 1) := by decide +kernel
theorem d_P_init_14 : decode b_P_init 14 = .ok (.new 15, 3) := by decide +kernel
theorem d_P_init_17 : decode b_P_init 17 = .ok (.dup, 1) := by decide +kernel
theorem d_P_init_18 : decode b_P_init 18 = .ok (.invokespecial 17, 3) := by decide +kernel
theorem d_P_init_21 : decode b_P_init 21 = .ok (.putfield 18, 3) := by decide +kernel
theorem d_P_init_24 : decode b_P_init 24 = .ok (.return_, 1) := by decide +kernel
theorem nd_P : ∀ j, j < 5 → defaultValue (tt_P j) = vp_V [.null, .null, .int 0, .int 0, .int 0] j
  | 0, _ => rfl
  | 1, _ => rfl
  | 2, _ => rfl
  | 3, _ => rfl
  | 4, _ => rfl
  | n + 5, h => absurd h (by omega)
set_option maxHeartbeats 1000000 in
set_option maxRecDepth 100000 in
theorem c_P_init (l : Launch) (dC : Nat → ClassId) (dI : Nat → Nat → Nat) (cI cZ cQ : ClassId) (p0 : Nat) : vz_N l (dC, dI) classes [(cI, .int), (cZ, .boolean), (cQ, .object "BinTrees$Person")] y_P_init (Cond.code y_P_init b_P_init 1 none :: vz_tbl) ({ frames := 3, cells := 6, slots := 466, locals := 63 }) [.ref p0] [(p0, .inr (2, [.null, .null, .int 0, .int 0, .int 0]))] 6 466 (fun _ => True) (fun w1 => ∃ p1 h0 a1 a2 a3 a4 : Nat, w1 = wP cI cZ p0 p1 h0 a1 a2 a3 a4 ((fun _ => 0), m_T_startAnew ((fun _ => 0), (fun _ => 0), (fun _ => 0), (fun _ => 0), 0), 0, 0, 0)) := by
  refine vz_N.of (by decide) (Nat.le_of_ble_eq_true rfl) ?_
  intro p e s m below meth c ls A E0 hl hin hK hE hA hP hD hS hAe
  obtain ⟨hx, hb, hr, hml, hown, hT, hlocks⟩ := E0
  have hl : lv_has ls 1 [(0, .ref p0)] := hl
  refine lv_aload_n hx hb d_P_init_0 rfl (lv_at hl 0 rfl) ?_
  refine W.objInit hx hb hown (hT _ kw_75) (hT _ kw_13) (hT _ kw_14) rfl (by rw [hml]; exact hl.1) rfl d_P_init_1 (Nat.le_of_ble_eq_true rfl) (Nat.le_of_ble_eq_true rfl) ?_
  refine W.eq (g2 := F0 m 4 ls []) rfl ?_
  refine lv_aload_n hx hb d_P_init_4 rfl (lv_at hl 0 rfl) ?_
  refine lv_sipush (v := 301) hx hb d_P_init_5 (by decide) ?_
  refine vz_newa (atype := .int) (a0 := (301, .inl (fun _ => 0))) hx hb (hT _ kw_68) rfl hK hP hD hS hA (fun _ => rfl) (by decide) rfl (by decide) (Nat.le_of_ble_eq_true rfl) (Nat.le_of_ble_eq_true rfl) d_P_init_8 0 rfl (fun _ h1 h2 => vz_raI h1 h2) (fun p1 H hP hD hS => ?_)
  have hP : va_P (dC, dI) classes [(p0, .inr (2, [.null, .null, .int 0, .int 0, .int 0])), (p1, .inl (cI, 301, .inl (fun _ => 0)))] H := hP
  have hD : va_D A [(p0, .inr (2, [.null, .null, .int 0, .int 0, .int 0])), (p1, .inl (cI, 301, .inl (fun _ => 0)))] := hD
  refine W.widen (k := 1) (n := 301) (Nat.le_of_ble_eq_true rfl) (Nat.le_of_ble_eq_true rfl) ?_
  refine va_putF (D := (dC, dI)) (ci := 2) (v := .ref p1) (ty := .array .int) (C := R_P) (T := F_P) (N := 5) hx hb hT i_P tt_P tt_P_ok n_P hown hK hP hD hS 0 rfl rfl 0 (by decide) (hT _ kw_107) (fun _ h9 => h9) rfl hin rfl (by decide +kernel) rfl rfl (Nat.le_of_ble_eq_true rfl) d_P_init_10 (fun H locs hP hD hS => ?_)
  have hP : va_P (dC, dI) classes [(p0, .inr (2, [.ref p1, .null, .int 0, .int 0, .int 0])), (p1, .inl (cI, 301, .inl (fun _ => 0)))] H := hP
  have hD : va_D A [(p0, .inr (2, [.ref p1, .null, .int 0, .int 0, .int 0])), (p1, .inl (cI, 301, .inl (fun _ => 0)))] := hD
  refine lv_aload_n hx hb d_P_init_13 rfl (lv_at hl 0 rfl) ?_
  refine va_new (ci := 0) (fs := [.null, .null, .null, .null, .int 0]) (C := R_T) (T := F_T) (N := 5) hx hb hT i_T tt_T tt_T_ok hown (hT _ kw_76) (hT _ kw_77) (hT _ kw_4) hK hP hD hS hA rfl (fun j hj => nd_T j hj) (Nat.le_of_ble_eq_true rfl) (Nat.le_of_ble_eq_true rfl) d_P_init_14 (fun h0 H hP hD hS => ?_)
  have hP : va_P (dC, dI) classes [(p0, .inr (2, [.ref p1, .null, .int 0, .int 0, .int 0])), (p1, .inl (cI, 301, .inl (fun _ => 0))), (h0, .inr (0, [.null, .null, .null, .null, .int 0]))] H := hP
  have hD : va_D A [(p0, .inr (2, [.ref p1, .null, .int 0, .int 0, .int 0])), (p1, .inl (cI, 301, .inl (fun _ => 0))), (h0, .inr (0, [.null, .null, .null, .null, .int 0]))] := hD
  refine W.widen (k := 2) (n := 306) (Nat.le_of_ble_eq_true rfl) (Nat.le_of_ble_eq_true rfl) ?_
  refine lv_dup hx hb d_P_init_17 rfl ?_
  refine vz_callI (rest := [.ref h0, .ref p0]) ⟨hx, hb, hml, hown, hT⟩ (c_T_init l dC dI cI cZ cQ h0) kw_80 kw_78 kw_79 kw_4 rfl hd_T_init ⟨⟨rfl, rfl⟩, Nat.le_of_ble_eq_true rfl, Nat.le_of_ble_eq_true rfl⟩ hK hP hD hS hA (fun _ _ _ _ _ => trivial) (fun _ _ => trivial) [2] [0, 1] rfl rfl (wr := [(p0, .inr (2, [.ref p1, .null, .int 0, .int 0, .int 0])), (p1, .inl (cI, 301, .inl (fun _ => 0)))]) rfl rfl (by decide) hl.1 rfl (Nat.le_of_ble_eq_true rfl) ⟨Nat.le_of_ble_eq_true rfl, Nat.le_of_ble_eq_true rfl⟩ d_P_init_18 (fun w1 H locs hz hP hD hS => ?_)
  obtain ⟨a1, a2, a3, a4, rfl⟩ := hz
  generalize hg : m_T_startAnew ((fun _ => 0), (fun _ => 0), (fun _ => 0), (fun _ => 0), 0) = g at hP hD
  have hP : va_P (dC, dI) classes [(p0, .inr (2, [.ref p1, .null, .int 0, .int 0, .int 0])), (p1, .inl (cI, 301, .inl (fun _ => 0))), (h0, .inr (0, [.ref a1, .ref a2, .ref a3, .ref a4, .int g.2.2.2.2])), (a1, .inl (cZ, 40, .inl g.1)), (a2, .inl (cI, 40, .inl g.2.1)), (a3, .inl (cI, 40, .inl g.2.2.1)), (a4, .inl (cI, 40, .inl g.2.2.2.1))] H := hP
  have hD : va_D A [(p0, .inr (2, [.ref p1, .null, .int 0, .int 0, .int 0])), (p1, .inl (cI, 301, .inl (fun _ => 0))), (h0, .inr (0, [.ref a1, .ref a2, .ref a3, .ref a4, .int g.2.2.2.2])), (a1, .inl (cZ, 40, .inl g.1)), (a2, .inl (cI, 40, .inl g.2.1)), (a3, .inl (cI, 40, .inl g.2.2.1)), (a4, .inl (cI, 40, .inl g.2.2.2.1))] := hD
  refine W.widen (k := 6) (n := 466) (Nat.le_of_ble_eq_true rfl) (Nat.le_of_ble_eq_true rfl) ?_
  refine va_putF (D := (dC, dI)) (ci := 2) (v := .ref h0) (ty := .object "BinTrees$Tree") (C := R_P) (T := F_P) (N := 5) hx hb hT i_P tt_P tt_P_ok n_P hown hK hP hD hS 0 rfl rfl 1 (by decide) (hT _ kw_109) (fun _ h9 => h9) rfl hin rfl (by decide +kernel) rfl rfl (Nat.le_of_ble_eq_true rfl) d_P_init_21 (fun H locs hP hD hS => ?_)
  have hP : va_P (dC, dI) classes [(p0, .inr (2, [.ref p1, .ref h0, .int 0, .int 0, .int 0])), (p1, .inl (cI, 301, .inl (fun _ => 0))), (h0, .inr (0, [.ref a1, .ref a2, .ref a3, .ref a4, .int g.2.2.2.2])), (a1, .inl (cZ, 40, .inl g.1)), (a2, .inl (cI, 40, .inl g.2.1)), (a3, .inl (cI, 40, .inl g.2.2.1)), (a4, .inl (cI, 40, .inl g.2.2.2.1))] H := hP
  have hD : va_D A [(p0, .inr (2, [.ref p1, .ref h0, .int 0, .int 0, .int 0])), (p1, .inl (cI, 301, .inl (fun _ => 0))), (h0, .inr (0, [.ref a1, .ref a2, .ref a3, .ref a4, .int g.2.2.2.2])), (a1, .inl (cZ, 40, .inl g.1)), (a2, .inl (cI, 40, .inl g.2.1)), (a3, .inl (cI, 40, .inl g.2.2.1)), (a4, .inl (cI, 40, .inl g.2.2.2.1))] := hD
  exact vz_nret hx hb hr hlocks d_P_init_24 hS hAe ⟨p1, h0, a1, a2, a3, a4, by first | rw [hg] | rfl⟩ hP hD rfl rfl
