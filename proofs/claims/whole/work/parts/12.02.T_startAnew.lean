theorem d_T_startAnew_0 : decode b_T_startAnew 0 = .ok (.aload_n 0, 1) := by decide +kernel
theorem d_T_startAnew_1 : decode b_T_startAnew 1 = .ok (.getfield 9, 3) := by decide +kernel
theorem d_T_startAnew_4 : decode b_T_startAnew 4 = .ok (.iconst 0, 1) := by decide +kernel
theorem d_T_startAnew_5 : decode b_T_startAnew 5 = .ok (.invokestatic 28, 3) := by decide +kernel
theorem d_T_startAnew_8 : decode b_T_startAnew 8 = .ok (.aload_n 0, 1) := by decide +kernel
theorem d_T_startAnew_9 : decode b_T_startAnew 9 = .ok (.getfield 9, 3) := by decide +kernel
theorem d_T_startAnew_12 : decode b_T_startAnew 12 = .ok (.iconst 0, 1) := by decide +kernel
theorem d_T_startAnew_13 : decode b_T_startAnew 13 = .ok (.iconst 1, 1) := by decide +kernel
theorem d_T_startAnew_14 : decode b_T_startAnew 14 = .ok (.bastore, 1) := by decide +kernel
theorem d_T_startAnew_15 : decode b_T_startAnew 15 = .ok (.aload_n 0, 1) := by decide +kernel
theorem d_T_startAnew_16 : decode b_T_startAnew 16 = .ok (.getfield 15, 3) := by decide +kernel
theorem d_T_startAnew_19 : decode b_T_startAnew 19 = .ok (.iconst 0, 1) := by decide +kernel
theorem d_T_startAnew_20 : decode b_T_startAnew 20 = .ok (.iconst (-1), 1) := by decide +kernel
theorem d_T_startAnew_21 : decode b_T_startAnew 21 = .ok (.iastore, 1) := by decide +kernel
theorem d_T_startAnew_22 : decode b_T_startAnew 22 = .ok (.aload_n 0, 1) := by decide +kernel
theorem d_T_startAnew_23 : decode b_T_startAnew 23 = .ok (.getfield 19, 3) := by decide +kernel
theorem d_T_startAnew_26 : decode b_T_startAnew 26 = .ok (.iconst 0, 1) := by decide +kernel
theorem d_T_startAnew_27 : decode b_T_startAnew 27 = .ok (.iconst (-1), 1) := by decide +kernel
theorem d_T_startAnew_28 : decode b_T_startAnew 28 = .ok (.iastore, 1) := by decide +kernel
theorem d_T_startAnew_29 : decode b_T_startAnew 29 = .ok (.aload_n 0, 1) := by decide +kernel
theorem d_T_startAnew_30 : decode b_T_startAnew 30 = .ok (.iconst 0, 1) := by decide +kernel
theorem d_T_startAnew_31 : decode b_T_startAnew 31 = .ok (.putfield 34, 3) := by decide +kernel
theorem d_T_startAnew_34 : decode b_T_startAnew 34 = .ok (.return_, 1) := by decide +kernel
theorem hC_T_startAnew_5 (cI cZ cQ : ClassId) (q0 q1 q2 q3 q4 : Nat) (S0 : cT) : ([1] : List Nat).map (fun i => (wT cI cZ q0 q1 q2 q3 q4 S0 : va_W)[i]?) = (wZ cI cZ q1 S0.1 : va_W).map some := rfl
theorem hF_A_fill (cI cZ cQ : ClassId) {z0 : Nat} (S0 R0 : cA) : (wZ cI cZ z0 R0 : va_W).map Prod.fst = (wZ cI cZ z0 S0 : va_W).map Prod.fst := rfl
theorem hU_T_startAnew_5 (cI cZ cQ : ClassId) (q0 q1 q2 q3 q4 : Nat) (S0 : cT) (R0 : cA) : vz_put (wT cI cZ q0 q1 q2 q3 q4 S0 : va_W) [1] (wZ cI cZ q1 R0 : va_W) = wT cI cZ q0 q1 q2 q3 q4 (R0, S0.2.1, S0.2.2.1, S0.2.2.2.1, S0.2.2.2.2) := (show vz_put ([(q0, .inr (0, [.ref q1, .ref q2, .ref q3, .ref q4, .int S0.2.2.2.2])), (q1, .inl (cZ, 40, .inl S0.1)), (q2, .inl (cI, 40, .inl S0.2.1)), (q3, .inl (cI, 40, .inl S0.2.2.1)), (q4, .inl (cI, 40, .inl S0.2.2.2.1))] : va_W) [1] ([(q1, .inl (cZ, 40, .inl R0))] : va_W) = [(q0, .inr (0, [.ref q1, .ref q2, .ref q3, .ref q4, .int S0.2.2.2.2])), (q1, .inl (cZ, 40, .inl R0)), (q2, .inl (cI, 40, .inl S0.2.1)), (q3, .inl (cI, 40, .inl S0.2.2.1)), (q4, .inl (cI, 40, .inl S0.2.2.2.1))] from rfl).trans rfl
theorem hW_T_startAnew_14 (cI cZ cQ : ClassId) (q0 q1 q2 q3 q4 : Nat) (S0 : cT) (v : cA) : (wT cI cZ q0 q1 q2 q3 q4 S0 : va_W).set 1 (q1, .inl (cZ, 40, .inl v)) = wT cI cZ q0 q1 q2 q3 q4 (v, S0.2.1, S0.2.2.1, S0.2.2.2.1, S0.2.2.2.2) := rfl
theorem hW_T_startAnew_21 (cI cZ cQ : ClassId) (q0 q1 q2 q3 q4 : Nat) (S0 : cT) (v : cA) : (wT cI cZ q0 q1 q2 q3 q4 S0 : va_W).set 2 (q2, .inl (cI, 40, .inl v)) = wT cI cZ q0 q1 q2 q3 q4 (S0.1, v, S0.2.2.1, S0.2.2.2.1, S0.2.2.2.2) := rfl
theorem hW_T_startAnew_28 (cI cZ cQ : ClassId) (q0 q1 q2 q3 q4 : Nat) (S0 : cT) (v : cA) : (wT cI cZ q0 q1 q2 q3 q4 S0 : va_W).set 3 (q3, .inl (cI, 40, .inl v)) = wT cI cZ q0 q1 q2 q3 q4 (S0.1, S0.2.1, v, S0.2.2.2.1, S0.2.2.2.2) := rfl
theorem hW_T_startAnew_31 (cI cZ cQ : ClassId) (q0 q1 q2 q3 q4 : Nat) (S0 : cT) (v : Int32) : (wT cI cZ q0 q1 q2 q3 q4 S0 : va_W).set 0 (q0, .inr (0, [.ref q1, .ref q2, .ref q3, .ref q4, .int S0.2.2.2.2].set 4 (.int v))) = wT cI cZ q0 q1 q2 q3 q4 (S0.1, S0.2.1, S0.2.2.1, S0.2.2.2.1, v) := rfl
def m_T_startAnew (T : cT) : cT := (upd (m_A_fill T.1 0) (0 : Int32).toNatClampNeg 1, upd T.2.1 (0 : Int32).toNatClampNeg (-1), upd T.2.2.1 (0 : Int32).toNatClampNeg (-1), T.2.2.2.1, 0)
set_option maxHeartbeats 1000000 in
set_option maxRecDepth 100000 in
theorem c_T_startAnew (l : Launch) (dC : Nat → ClassId) (dI : Nat → Nat → Nat) (cI cZ cQ : ClassId) (h0 : Nat) (a1 : Nat) (a2 : Nat) (a3 : Nat) (a4 : Nat) (T : cT)  : vz_C l (dC, dI) classes [(cI, .int), (cZ, .boolean), (cQ, .object "BinTrees$Person")] y_T_startAnew (Cond.code y_T_startAnew b_T_startAnew 1 none :: vz_tbl) ({ frames := 1, cells := 0, slots := 0, locals := 23 }) [.ref h0] (wT cI cZ h0 a1 a2 a3 a4 T) (none) (wT cI cZ h0 a1 a2 a3 a4 (m_T_startAnew T)) := by
  generalize hres : (m_T_startAnew T) = RES
  refine vz_C.of (by decide) (Nat.le_of_ble_eq_true rfl) ?_
  intro p e s m below meth c ls E hl hK hP hD hS
  obtain ⟨hx, hb, hr, hml, hown, hT, hlocks⟩ := E
  obtain ⟨Q, hQ⟩ : ∃ Q, Q = MQ below (vz_Q (dC, dI) classes (wT cI cZ h0 a1 a2 a3 a4 T) (none) (wT cI cZ h0 a1 a2 a3 a4 RES)) ([.ref h0] : List Value).toArray s 0 0 (vz_A (wT cI cZ h0 a1 a2 a3 a4 T)) := ⟨_, rfl⟩
  rw [← hQ]
  have hl : lv_has ls 1 [(0, .ref h0)] := hl
  have T0 := ti_0
  have T1 := ti_1
  have Tm := ti_m1
  have T8 := ti_8
  have T39 := ti_39
  have T40 := ti_40
  have T4 := ti_4
  have T300 := ti_300
  have hS0 := hS
  refine lv_aload_n hx hb d_T_startAnew_0 rfl (lv_at hl 0 rfl) ?_
  refine va_get (D := (dC, dI)) (ci := 0) (v := .ref a1) (C := R_T) (T := F_T) (N := 5) hx hb hT i_T hown hK hP 0 rfl rfl 0 (by decide) (hT _ kw_90) (fun _ h9 => h9) rfl d_T_startAnew_1 ?_
  refine lv_iconst (v := 0) hx hb d_T_startAnew_4 (by decide) ?_
  have hc := c_A_fill l dC dI cI cZ cQ a1 T.1 0 
  generalize hg_5 : (m_A_fill T.1 0) = g_5 at hc
  refine vz_callS (As := [.ref a1, .int 0]) (rest := []) ⟨hx, hb, hml, hown, hT⟩ hc (vz_goodS kw_87 kw_88 kw_5 kw_89) hd_A_fill ⟨⟨rfl, rfl⟩, Nat.le_of_ble_eq_true rfl, Nat.le_of_ble_eq_true rfl⟩ hK hP hD hS [1] rfl (hC_T_startAnew_5 cI cZ cQ h0 a1 a2 a3 a4 T) (hF_A_fill cI cZ cQ _ _) rfl hl.1 rfl (Nat.le_of_ble_eq_true rfl) ⟨Nat.zero_le _, Nat.zero_le _⟩ d_T_startAnew_5 (fun H locs hP hD hS => ?_)
  have hP : va_P (dC, dI) classes (wT cI cZ h0 a1 a2 a3 a4 (g_5, T.2.1, T.2.2.1, T.2.2.2.1, T.2.2.2.2)) H := vz_reP (hU_T_startAnew_5 cI cZ cQ h0 a1 a2 a3 a4 T g_5) hP
  have hD : va_D (vz_A (wT cI cZ h0 a1 a2 a3 a4 T)) (wT cI cZ h0 a1 a2 a3 a4 (g_5, T.2.1, T.2.2.1, T.2.2.2.1, T.2.2.2.2)) := vz_reD (hU_T_startAnew_5 cI cZ cQ h0 a1 a2 a3 a4 T g_5) hD
  refine W.eq (g2 := F0 m 8 ls []) rfl ?_
  refine lv_aload_n hx hb d_T_startAnew_8 rfl (lv_at hl 0 rfl) ?_
  refine va_get (D := (dC, dI)) (ci := 0) (v := .ref a1) (C := R_T) (T := F_T) (N := 5) hx hb hT i_T hown hK hP 0 rfl rfl 0 (by decide) (hT _ kw_90) (fun _ h9 => h9) rfl d_T_startAnew_9 ?_
  refine lv_iconst (v := 0) hx hb d_T_startAnew_12 (by decide) ?_
  refine lv_iconst (v := 1) hx hb d_T_startAnew_13 (by decide) ?_
  refine va_zast hx hb hK hP hD hS 1 1 rfl rfl (ti_vp (by omega) (by omega)) d_T_startAnew_14 (fun H locs hP hD hS => ?_)
  have hP : va_P (dC, dI) classes (wT cI cZ h0 a1 a2 a3 a4 (upd g_5 (0 : Int32).toNatClampNeg 1, T.2.1, T.2.2.1, T.2.2.2.1, T.2.2.2.2)) H := vz_reP (hW_T_startAnew_14 cI cZ cQ h0 a1 a2 a3 a4 (g_5, T.2.1, T.2.2.1, T.2.2.2.1, T.2.2.2.2) (upd g_5 (0 : Int32).toNatClampNeg 1)) hP
  have hD : va_D (vz_A (wT cI cZ h0 a1 a2 a3 a4 T)) (wT cI cZ h0 a1 a2 a3 a4 (upd g_5 (0 : Int32).toNatClampNeg 1, T.2.1, T.2.2.1, T.2.2.2.1, T.2.2.2.2)) := vz_reD (hW_T_startAnew_14 cI cZ cQ h0 a1 a2 a3 a4 (g_5, T.2.1, T.2.2.1, T.2.2.2.1, T.2.2.2.2) (upd g_5 (0 : Int32).toNatClampNeg 1)) hD
  refine lv_aload_n hx hb d_T_startAnew_15 rfl (lv_at hl 0 rfl) ?_
  refine va_get (D := (dC, dI)) (ci := 0) (v := .ref a2) (C := R_T) (T := F_T) (N := 5) hx hb hT i_T hown hK hP 0 rfl rfl 1 (by decide) (hT _ kw_92) (fun _ h9 => h9) rfl d_T_startAnew_16 ?_
  refine lv_iconst (v := 0) hx hb d_T_startAnew_19 (by decide) ?_
  refine lv_iconst (v := -1) hx hb d_T_startAnew_20 (by decide) ?_
  refine va_iast hx hb hK hP hD hS 2 0 rfl rfl (ti_vp (by omega) (by omega)) d_T_startAnew_21 (fun H locs hP hD hS => ?_)
  have hP : va_P (dC, dI) classes (wT cI cZ h0 a1 a2 a3 a4 (upd g_5 (0 : Int32).toNatClampNeg 1, upd T.2.1 (0 : Int32).toNatClampNeg (-1), T.2.2.1, T.2.2.2.1, T.2.2.2.2)) H := vz_reP (hW_T_startAnew_21 cI cZ cQ h0 a1 a2 a3 a4 (upd g_5 (0 : Int32).toNatClampNeg 1, T.2.1, T.2.2.1, T.2.2.2.1, T.2.2.2.2) (upd T.2.1 (0 : Int32).toNatClampNeg (-1))) hP
  have hD : va_D (vz_A (wT cI cZ h0 a1 a2 a3 a4 T)) (wT cI cZ h0 a1 a2 a3 a4 (upd g_5 (0 : Int32).toNatClampNeg 1, upd T.2.1 (0 : Int32).toNatClampNeg (-1), T.2.2.1, T.2.2.2.1, T.2.2.2.2)) := vz_reD (hW_T_startAnew_21 cI cZ cQ h0 a1 a2 a3 a4 (upd g_5 (0 : Int32).toNatClampNeg 1, T.2.1, T.2.2.1, T.2.2.2.1, T.2.2.2.2) (upd T.2.1 (0 : Int32).toNatClampNeg (-1))) hD
  refine lv_aload_n hx hb d_T_startAnew_22 rfl (lv_at hl 0 rfl) ?_
  refine va_get (D := (dC, dI)) (ci := 0) (v := .ref a3) (C := R_T) (T := F_T) (N := 5) hx hb hT i_T hown hK hP 0 rfl rfl 2 (by decide) (hT _ kw_94) (fun _ h9 => h9) rfl d_T_startAnew_23 ?_
  refine lv_iconst (v := 0) hx hb d_T_startAnew_26 (by decide) ?_
  refine lv_iconst (v := -1) hx hb d_T_startAnew_27 (by decide) ?_
  refine va_iast hx hb hK hP hD hS 3 0 rfl rfl (ti_vp (by omega) (by omega)) d_T_startAnew_28 (fun H locs hP hD hS => ?_)
  have hP : va_P (dC, dI) classes (wT cI cZ h0 a1 a2 a3 a4 (upd g_5 (0 : Int32).toNatClampNeg 1, upd T.2.1 (0 : Int32).toNatClampNeg (-1), upd T.2.2.1 (0 : Int32).toNatClampNeg (-1), T.2.2.2.1, T.2.2.2.2)) H := vz_reP (hW_T_startAnew_28 cI cZ cQ h0 a1 a2 a3 a4 (upd g_5 (0 : Int32).toNatClampNeg 1, upd T.2.1 (0 : Int32).toNatClampNeg (-1), T.2.2.1, T.2.2.2.1, T.2.2.2.2) (upd T.2.2.1 (0 : Int32).toNatClampNeg (-1))) hP
  have hD : va_D (vz_A (wT cI cZ h0 a1 a2 a3 a4 T)) (wT cI cZ h0 a1 a2 a3 a4 (upd g_5 (0 : Int32).toNatClampNeg 1, upd T.2.1 (0 : Int32).toNatClampNeg (-1), upd T.2.2.1 (0 : Int32).toNatClampNeg (-1), T.2.2.2.1, T.2.2.2.2)) := vz_reD (hW_T_startAnew_28 cI cZ cQ h0 a1 a2 a3 a4 (upd g_5 (0 : Int32).toNatClampNeg 1, upd T.2.1 (0 : Int32).toNatClampNeg (-1), T.2.2.1, T.2.2.2.1, T.2.2.2.2) (upd T.2.2.1 (0 : Int32).toNatClampNeg (-1))) hD
  refine lv_aload_n hx hb d_T_startAnew_29 rfl (lv_at hl 0 rfl) ?_
  refine lv_iconst (v := 0) hx hb d_T_startAnew_30 (by decide) ?_
  refine va_put (D := (dC, dI)) (ci := 0) (v := .int 0) (ty := .int) (C := R_T) (T := F_T) (N := 5) hx hb hT i_T tt_T tt_T_ok n_T hown hK hP hD hS 0 rfl rfl 4 (by decide) (hT _ kw_97) (fun _ h9 => h9) rfl (by decide +kernel) rfl rfl (Nat.le_of_ble_eq_true rfl) d_T_startAnew_31 (fun H locs hP hD hS => ?_)
  have hP : va_P (dC, dI) classes (wT cI cZ h0 a1 a2 a3 a4 (upd g_5 (0 : Int32).toNatClampNeg 1, upd T.2.1 (0 : Int32).toNatClampNeg (-1), upd T.2.2.1 (0 : Int32).toNatClampNeg (-1), T.2.2.2.1, 0)) H := vz_reP (hW_T_startAnew_31 cI cZ cQ h0 a1 a2 a3 a4 (upd g_5 (0 : Int32).toNatClampNeg 1, upd T.2.1 (0 : Int32).toNatClampNeg (-1), upd T.2.2.1 (0 : Int32).toNatClampNeg (-1), T.2.2.2.1, T.2.2.2.2) 0) hP
  have hD : va_D (vz_A (wT cI cZ h0 a1 a2 a3 a4 T)) (wT cI cZ h0 a1 a2 a3 a4 (upd g_5 (0 : Int32).toNatClampNeg 1, upd T.2.1 (0 : Int32).toNatClampNeg (-1), upd T.2.2.1 (0 : Int32).toNatClampNeg (-1), T.2.2.2.1, 0)) := vz_reD (hW_T_startAnew_31 cI cZ cQ h0 a1 a2 a3 a4 (upd g_5 (0 : Int32).toNatClampNeg 1, upd T.2.1 (0 : Int32).toNatClampNeg (-1), upd T.2.2.1 (0 : Int32).toNatClampNeg (-1), T.2.2.2.1, T.2.2.2.2) 0) hD
  rw [m_T_startAnew] at hres
  try rw [hg_5] at hres
  subst hres
  subst hQ
  exact vz_vret hx hb hr hlocks d_T_startAnew_34 hS rfl hP
