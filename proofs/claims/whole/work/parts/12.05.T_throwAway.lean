theorem d_T_throwAway_0 : decode b_T_throwAway 0 = .ok (.aload_n 0, 1) := by decide +kernel
theorem d_T_throwAway_1 : decode b_T_throwAway 1 = .ok (.getfield 9, 3) := by decide +kernel
theorem d_T_throwAway_4 : decode b_T_throwAway 4 = .ok (.iload_n 1, 1) := by decide +kernel
theorem d_T_throwAway_5 : decode b_T_throwAway 5 = .ok (.baload, 1) := by decide +kernel
theorem d_T_throwAway_6 : decode b_T_throwAway 6 = .ok (.ifCond .eq 13, 3) := by decide +kernel
theorem d_T_throwAway_9 : decode b_T_throwAway 9 = .ok (.aload_n 0, 1) := by decide +kernel
theorem d_T_throwAway_10 : decode b_T_throwAway 10 = .ok (.getfield 15, 3) := by decide +kernel
theorem d_T_throwAway_13 : decode b_T_throwAway 13 = .ok (.iload_n 1, 1) := by decide +kernel
theorem d_T_throwAway_14 : decode b_T_throwAway 14 = .ok (.iaload, 1) := by decide +kernel
theorem d_T_throwAway_15 : decode b_T_throwAway 15 = .ok (.iconst (-1), 1) := by decide +kernel
theorem d_T_throwAway_16 : decode b_T_throwAway 16 = .ok (.if_icmp .ne 5, 3) := by decide +kernel
theorem d_T_throwAway_19 : decode b_T_throwAway 19 = .ok (.iconst 0, 1) := by decide +kernel
theorem d_T_throwAway_20 : decode b_T_throwAway 20 = .ok (.ireturn, 1) := by decide +kernel
theorem d_T_throwAway_21 : decode b_T_throwAway 21 = .ok (.aload_n 0, 1) := by decide +kernel
theorem d_T_throwAway_22 : decode b_T_throwAway 22 = .ok (.iload_n 1, 1) := by decide +kernel
theorem d_T_throwAway_23 : decode b_T_throwAway 23 = .ok (.invokevirtual 40, 3) := by decide +kernel
theorem d_T_throwAway_26 : decode b_T_throwAway 26 = .ok (.aload_n 0, 1) := by decide +kernel
theorem d_T_throwAway_27 : decode b_T_throwAway 27 = .ok (.aload_n 0, 1) := by decide +kernel
theorem d_T_throwAway_28 : decode b_T_throwAway 28 = .ok (.getfield 28, 3) := by decide +kernel
theorem d_T_throwAway_31 : decode b_T_throwAway 31 = .ok (.iload_n 1, 1) := by decide +kernel
theorem d_T_throwAway_32 : decode b_T_throwAway 32 = .ok (.iconst (-1), 1) := by decide +kernel
theorem d_T_throwAway_33 : decode b_T_throwAway 33 = .ok (.invokevirtual 32, 3) := by decide +kernel
theorem d_T_throwAway_36 : decode b_T_throwAway 36 = .ok (.iconst 1, 1) := by decide +kernel
theorem d_T_throwAway_37 : decode b_T_throwAway 37 = .ok (.ireturn, 1) := by decide +kernel
theorem hC_T_throwAway_23 (cI cZ cQ : ClassId) (q0 q1 q2 q3 q4 : Nat) (S0 : cT) : ([0, 1, 2, 3, 4] : List Nat).map (fun i => (wT cI cZ q0 q1 q2 q3 q4 S0 : va_W)[i]?) = (wT cI cZ q0 q1 q2 q3 q4 S0 : va_W).map some := rfl
theorem hU_T_throwAway_23 (cI cZ cQ : ClassId) (q0 q1 q2 q3 q4 : Nat) (S0 : cT) (R0 : cT) : vz_put (wT cI cZ q0 q1 q2 q3 q4 S0 : va_W) [0, 1, 2, 3, 4] (wT cI cZ q0 q1 q2 q3 q4 R0 : va_W) = wT cI cZ q0 q1 q2 q3 q4 R0 := (show vz_put ([(q0, .inr (0, [.ref q1, .ref q2, .ref q3, .ref q4, .int S0.2.2.2.2])), (q1, .inl (cZ, 40, .inl S0.1)), (q2, .inl (cI, 40, .inl S0.2.1)), (q3, .inl (cI, 40, .inl S0.2.2.1)), (q4, .inl (cI, 40, .inl S0.2.2.2.1))] : va_W) [0, 1, 2, 3, 4] ([(q0, .inr (0, [.ref q1, .ref q2, .ref q3, .ref q4, .int R0.2.2.2.2])), (q1, .inl (cZ, 40, .inl R0.1)), (q2, .inl (cI, 40, .inl R0.2.1)), (q3, .inl (cI, 40, .inl R0.2.2.1)), (q4, .inl (cI, 40, .inl R0.2.2.2.1))] : va_W) = [(q0, .inr (0, [.ref q1, .ref q2, .ref q3, .ref q4, .int R0.2.2.2.2])), (q1, .inl (cZ, 40, .inl R0.1)), (q2, .inl (cI, 40, .inl R0.2.1)), (q3, .inl (cI, 40, .inl R0.2.2.1)), (q4, .inl (cI, 40, .inl R0.2.2.2.1))] from rfl).trans rfl
theorem hC_T_throwAway_33 (cI cZ cQ : ClassId) (q0 q1 q2 q3 q4 : Nat) (S0 : cT) : ([0, 1, 2, 3, 4] : List Nat).map (fun i => (wT cI cZ q0 q1 q2 q3 q4 S0 : va_W)[i]?) = (wT cI cZ q0 q1 q2 q3 q4 S0 : va_W).map some := rfl
theorem hU_T_throwAway_33 (cI cZ cQ : ClassId) (q0 q1 q2 q3 q4 : Nat) (S0 : cT) (R0 : cT) : vz_put (wT cI cZ q0 q1 q2 q3 q4 S0 : va_W) [0, 1, 2, 3, 4] (wT cI cZ q0 q1 q2 q3 q4 R0 : va_W) = wT cI cZ q0 q1 q2 q3 q4 R0 := (show vz_put ([(q0, .inr (0, [.ref q1, .ref q2, .ref q3, .ref q4, .int S0.2.2.2.2])), (q1, .inl (cZ, 40, .inl S0.1)), (q2, .inl (cI, 40, .inl S0.2.1)), (q3, .inl (cI, 40, .inl S0.2.2.1)), (q4, .inl (cI, 40, .inl S0.2.2.2.1))] : va_W) [0, 1, 2, 3, 4] ([(q0, .inr (0, [.ref q1, .ref q2, .ref q3, .ref q4, .int R0.2.2.2.2])), (q1, .inl (cZ, 40, .inl R0.1)), (q2, .inl (cI, 40, .inl R0.2.1)), (q3, .inl (cI, 40, .inl R0.2.2.1)), (q4, .inl (cI, 40, .inl R0.2.2.2.1))] : va_W) = [(q0, .inr (0, [.ref q1, .ref q2, .ref q3, .ref q4, .int R0.2.2.2.2])), (q1, .inl (cZ, 40, .inl R0.1)), (q2, .inl (cI, 40, .inl R0.2.1)), (q3, .inl (cI, 40, .inl R0.2.2.1)), (q4, .inl (cI, 40, .inl R0.2.2.2.1))] from rfl).trans rfl
def m_T_throwAway (T : cT) (x1 : Int32) : Int32 × cT := (if (T.1 x1.toNatClampNeg) = 0 then (0, T) else (if (T.2.1 x1.toNatClampNeg) = (-1) then (0, T) else (1, (m_T_putAt (m_T_takeOut T x1) (m_T_takeOut T x1).2.2.2.2 x1 (-1)))))
set_option maxHeartbeats 1000000 in
set_option maxRecDepth 100000 in
theorem c_T_throwAway (l : Launch) (dC : Nat → ClassId) (dI : Nat → Nat → Nat) (cI cZ cQ : ClassId) (h0 : Nat) (a1 : Nat) (a2 : Nat) (a3 : Nat) (a4 : Nat) (T : cT) (x1 : Int32) (hok : okT T) (h1 : 0 ≤ x1.toInt ∧ x1.toInt < 40) : vz_C l (dC, dI) classes [(cI, .int), (cZ, .boolean), (cQ, .object "BinTrees$Person")] y_T_throwAway (Cond.code y_T_throwAway b_T_throwAway 2 (some .boolean) :: vz_tbl) ({ frames := 1, cells := 0, slots := 0, locals := 24 }) [.ref h0, .int x1] (wT cI cZ h0 a1 a2 a3 a4 T) (some (.int ((m_T_throwAway T x1).1))) (wT cI cZ h0 a1 a2 a3 a4 ((m_T_throwAway T x1).2)) := by
  generalize hres : (m_T_throwAway T x1) = RES
  refine vz_C.of (by decide) (Nat.le_of_ble_eq_true rfl) ?_
  intro p e s m below meth c ls E hl hK hP hD hS
  obtain ⟨hx, hb, hr, hml, hown, hT, hlocks⟩ := E
  obtain ⟨Q, hQ⟩ : ∃ Q, Q = MQ below (vz_Q (dC, dI) classes (wT cI cZ h0 a1 a2 a3 a4 T) (some (.int RES.1)) (wT cI cZ h0 a1 a2 a3 a4 RES.2)) ([.ref h0, .int x1] : List Value).toArray s 0 0 (vz_A (wT cI cZ h0 a1 a2 a3 a4 T)) := ⟨_, rfl⟩
  rw [← hQ]
  have hl : lv_has ls 2 [(0, .ref h0), (1, .int x1)] := hl
  have T0 := ti_0
  have T1 := ti_1
  have Tm := ti_m1
  have T8 := ti_8
  have T39 := ti_39
  have T40 := ti_40
  have T4 := ti_4
  have T300 := ti_300
  have hS0 := hS
  refine lv_aload_n hx hb d_T_throwAway_0 rfl (lv_at hl 0 rfl) ?_
  refine va_get (D := (dC, dI)) (ci := 0) (v := .ref a1) (C := R_T) (T := F_T) (N := 5) hx hb hT i_T hown hK hP 0 rfl rfl 0 (by decide) (hT _ kw_86) (fun _ h9 => h9) rfl d_T_throwAway_1 ?_
  refine lv_iload_n hx hb d_T_throwAway_4 rfl (lv_at hl 1 rfl) ?_
  refine va_zald hx hb hK hP 1 1 rfl rfl (ti_vp (by omega) (by omega)) d_T_throwAway_5 ?_
  refine lv_if_eq (tgt := 19) hx hb d_T_throwAway_6 (by decide) (fun c_6 => ?_) (fun c_6 => ?_)
  · have z_6 : (T.1 x1.toNatClampNeg).toInt = (0 : Int32).toInt := congrArg Int32.toInt c_6
    refine lv_iconst (v := 0) hx hb d_T_throwAway_19 (by decide) ?_
    rw [m_T_throwAway, if_pos c_6] at hres
    subst hres
    subst hQ
    exact vz_zret hx hb hr (by decide) hlocks d_T_throwAway_20 hS rfl hP
  · have z_6 : ¬ (T.1 x1.toNatClampNeg).toInt = (0 : Int32).toInt := mt Int32.toInt_inj.mp c_6
    refine lv_aload_n hx hb d_T_throwAway_9 rfl (lv_at hl 0 rfl) ?_
    refine va_get (D := (dC, dI)) (ci := 0) (v := .ref a2) (C := R_T) (T := F_T) (N := 5) hx hb hT i_T hown hK hP 0 rfl rfl 1 (by decide) (hT _ kw_88) (fun _ h9 => h9) rfl d_T_throwAway_10 ?_
    refine lv_iload_n hx hb d_T_throwAway_13 rfl (lv_at hl 1 rfl) ?_
    refine va_iald hx hb hK hP 2 0 rfl rfl (ti_vp (by omega) (by omega)) d_T_throwAway_14 ?_
    refine lv_iconst (v := -1) hx hb d_T_throwAway_15 (by decide) ?_
    refine lv_icmp_ne (tgt := 21) hx hb d_T_throwAway_16 (by decide) (fun c_16 => ?_) (fun c_16 => ?_)
    · have z_16 : ¬ (T.2.1 x1.toNatClampNeg).toInt = (-1 : Int32).toInt := mt Int32.toInt_inj.mp c_16
      refine lv_aload_n hx hb d_T_throwAway_21 rfl (lv_at hl 0 rfl) ?_
      refine lv_iload_n hx hb d_T_throwAway_22 rfl (lv_at hl 1 rfl) ?_
      have hc := c_T_takeOut l dC dI cI cZ cQ h0 a1 a2 a3 a4 T x1 (ok_le hok)
      generalize hg_23 : (m_T_takeOut T x1) = g_23 at hc
      refine vz_callV (As := [.int x1]) (rest := []) ⟨hx, hb, hml, hown, hT⟩ hc (vz_goodV kw_201 kw_203 ks_7 kw_4 kw_204) ⟨rfl, hd_T_takeOut⟩ ⟨⟨rfl, rfl⟩, Nat.le_of_ble_eq_true rfl, Nat.le_of_ble_eq_true rfl⟩ hK hP hD hS [0, 1, 2, 3, 4] rfl (hC_T_throwAway_23 cI cZ cQ h0 a1 a2 a3 a4 T) (hF_T_takeOut cI cZ cQ _ _) 0 0 rfl rfl rfl rfl hl.1 rfl (Nat.le_of_ble_eq_true rfl) ⟨Nat.zero_le _, Nat.zero_le _⟩ d_T_throwAway_23 (fun H locs hP hD hS => ?_)
      have hP : va_P (dC, dI) classes (wT cI cZ h0 a1 a2 a3 a4 g_23) H := vz_reP (hU_T_throwAway_23 cI cZ cQ h0 a1 a2 a3 a4 T g_23) hP
      have hD : va_D (vz_A (wT cI cZ h0 a1 a2 a3 a4 T)) (wT cI cZ h0 a1 a2 a3 a4 g_23) := vz_reD (hU_T_throwAway_23 cI cZ cQ h0 a1 a2 a3 a4 T g_23) hD
      have ok1 : okT g_23 := by rw [← hg_23]; exact to_ok' hok
      refine W.eq (g2 := F0 m 26 ls []) rfl ?_
      refine lv_aload_n hx hb d_T_throwAway_26 rfl (lv_at hl 0 rfl) ?_
      refine lv_aload_n hx hb d_T_throwAway_27 rfl (lv_at hl 0 rfl) ?_
      refine va_get (D := (dC, dI)) (ci := 0) (v := .int g_23.2.2.2.2) (C := R_T) (T := F_T) (N := 5) hx hb hT i_T hown hK hP 0 rfl rfl 4 (by decide) (hT _ kw_93) (fun _ h9 => h9) rfl d_T_throwAway_28 ?_
      refine lv_iload_n hx hb d_T_throwAway_31 rfl (lv_at hl 1 rfl) ?_
      refine lv_iconst (v := -1) hx hb d_T_throwAway_32 (by decide) ?_
      have hc := c_T_putAt l dC dI cI cZ cQ h0 a1 a2 a3 a4 g_23 g_23.2.2.2.2 x1 (-1) (ok_lt ok1) (by have := ok1.2.2.1; omega) (h1)
      generalize hg_33 : (m_T_putAt g_23 g_23.2.2.2.2 x1 (-1)) = g_33 at hc
      refine vz_callV (As := [.int g_23.2.2.2.2, .int x1, .int (-1)]) (rest := []) ⟨hx, hb, hml, hown, hT⟩ hc (vz_goodV kw_185 kw_187 ks_5 kw_4 kw_188) ⟨rfl, hd_T_putAt⟩ ⟨⟨rfl, rfl⟩, Nat.le_of_ble_eq_true rfl, Nat.le_of_ble_eq_true rfl⟩ hK hP hD hS [0, 1, 2, 3, 4] rfl (hC_T_throwAway_33 cI cZ cQ h0 a1 a2 a3 a4 g_23) (hF_T_putAt cI cZ cQ _ _) 0 0 rfl rfl rfl rfl hl.1 rfl (Nat.le_of_ble_eq_true rfl) ⟨Nat.zero_le _, Nat.zero_le _⟩ d_T_throwAway_33 (fun H locs hP hD hS => ?_)
      have hP : va_P (dC, dI) classes (wT cI cZ h0 a1 a2 a3 a4 g_33) H := vz_reP (hU_T_throwAway_33 cI cZ cQ h0 a1 a2 a3 a4 g_23 g_33) hP
      have hD : va_D (vz_A (wT cI cZ h0 a1 a2 a3 a4 T)) (wT cI cZ h0 a1 a2 a3 a4 g_33) := vz_reD (hU_T_throwAway_33 cI cZ cQ h0 a1 a2 a3 a4 g_23 g_33) hD
      refine W.eq (g2 := F0 m 36 ls []) rfl ?_
      refine lv_iconst (v := 1) hx hb d_T_throwAway_36 (by decide) ?_
      rw [m_T_throwAway, if_neg c_6, if_neg c_16] at hres
      try rw [hg_23] at hres
      try rw [hg_33] at hres
      subst hres
      subst hQ
      exact vz_zret hx hb hr (by decide) hlocks d_T_throwAway_37 hS rfl hP
    · have z_16 : (T.2.1 x1.toNatClampNeg).toInt = (-1 : Int32).toInt := congrArg Int32.toInt c_16
      refine lv_iconst (v := 0) hx hb d_T_throwAway_19 (by decide) ?_
      rw [m_T_throwAway, if_neg c_6, if_pos c_16] at hres
      subst hres
      subst hQ
      exact vz_zret hx hb hr (by decide) hlocks d_T_throwAway_20 hS rfl hP
