theorem d_L_isAhead_0 : decode b_L_isAhead 0 = .ok (.aload_n 0, 1) := by decide +kernel
theorem d_L_isAhead_1 : decode b_L_isAhead 1 = .ok (.getfield 18, 3) := by decide +kernel
theorem d_L_isAhead_4 : decode b_L_isAhead 4 = .ok (.iload_n 1, 1) := by decide +kernel
theorem d_L_isAhead_5 : decode b_L_isAhead 5 = .ok (.iaload, 1) := by decide +kernel
theorem d_L_isAhead_6 : decode b_L_isAhead 6 = .ok (.aload_n 0, 1) := by decide +kernel
theorem d_L_isAhead_7 : decode b_L_isAhead 7 = .ok (.getfield 18, 3) := by decide +kernel
theorem d_L_isAhead_10 : decode b_L_isAhead 10 = .ok (.iload_n 2, 1) := by decide +kernel
theorem d_L_isAhead_11 : decode b_L_isAhead 11 = .ok (.iaload, 1) := by decide +kernel
theorem d_L_isAhead_12 : decode b_L_isAhead 12 = .ok (.if_icmp .lt 33, 3) := by decide +kernel
theorem d_L_isAhead_15 : decode b_L_isAhead 15 = .ok (.aload_n 0, 1) := by decide +kernel
theorem d_L_isAhead_16 : decode b_L_isAhead 16 = .ok (.getfield 18, 3) := by decide +kernel
theorem d_L_isAhead_19 : decode b_L_isAhead 19 = .ok (.iload_n 1, 1) := by decide +kernel
theorem d_L_isAhead_20 : decode b_L_isAhead 20 = .ok (.iaload, 1) := by decide +kernel
theorem d_L_isAhead_21 : decode b_L_isAhead 21 = .ok (.aload_n 0, 1) := by decide +kernel
theorem d_L_isAhead_22 : decode b_L_isAhead 22 = .ok (.getfield 18, 3) := by decide +kernel
theorem d_L_isAhead_25 : decode b_L_isAhead 25 = .ok (.iload_n 2, 1) := by decide +kernel
theorem d_L_isAhead_26 : decode b_L_isAhead 26 = .ok (.iaload, 1) := by decide +kernel
theorem d_L_isAhead_27 : decode b_L_isAhead 27 = .ok (.if_icmp .ne 22, 3) := by decide +kernel
theorem d_L_isAhead_30 : decode b_L_isAhead 30 = .ok (.aload_n 0, 1) := by decide +kernel
theorem d_L_isAhead_31 : decode b_L_isAhead 31 = .ok (.getfield 15, 3) := by decide +kernel
theorem d_L_isAhead_34 : decode b_L_isAhead 34 = .ok (.iload_n 1, 1) := by decide +kernel
theorem d_L_isAhead_35 : decode b_L_isAhead 35 = .ok (.iaload, 1) := by decide +kernel
theorem d_L_isAhead_36 : decode b_L_isAhead 36 = .ok (.aload_n 0, 1) := by decide +kernel
theorem d_L_isAhead_37 : decode b_L_isAhead 37 = .ok (.getfield 15, 3) := by decide +kernel
theorem d_L_isAhead_40 : decode b_L_isAhead 40 = .ok (.iload_n 2, 1) := by decide +kernel
theorem d_L_isAhead_41 : decode b_L_isAhead 41 = .ok (.iaload, 1) := by decide +kernel
theorem d_L_isAhead_42 : decode b_L_isAhead 42 = .ok (.if_icmp .ge 7, 3) := by decide +kernel
theorem d_L_isAhead_45 : decode b_L_isAhead 45 = .ok (.iconst 1, 1) := by decide +kernel
theorem d_L_isAhead_46 : decode b_L_isAhead 46 = .ok (.goto 4, 3) := by decide +kernel
theorem d_L_isAhead_49 : decode b_L_isAhead 49 = .ok (.iconst 0, 1) := by decide +kernel
theorem d_L_isAhead_50 : decode b_L_isAhead 50 = .ok (.ireturn, 1) := by decide +kernel
def m_L_isAhead (L : cL) (x1 : Int32) (x2 : Int32) : Int32 := (if (L.2.2.1 x1.toNatClampNeg) < (L.2.2.1 x2.toNatClampNeg) then 1 else (if (L.2.2.1 x1.toNatClampNeg) = (L.2.2.1 x2.toNatClampNeg) then (if (L.2.1 x2.toNatClampNeg) ≤ (L.2.1 x1.toNatClampNeg) then 0 else 1) else 0))
set_option maxHeartbeats 1000000 in
set_option maxRecDepth 100000 in
theorem c_L_isAhead (l : Launch) (dC : Nat → ClassId) (dI : Nat → Nat → Nat) (cI cZ cQ : ClassId) (u0 : Nat) (u1 : Nat) (u2 : Nat) (u3 : Nat) (u4 : Nat) (u5 : Nat) (u6 : Nat) (u7 : Nat) (u8 : Nat) (L : cL) (x1 : Int32) (x2 : Int32) (h1 : 0 ≤ x1.toInt ∧ x1.toInt < 301) (h2 : 0 ≤ x2.toInt ∧ x2.toInt < 301) : vz_C l (dC, dI) classes [(cI, .int), (cZ, .boolean), (cQ, .object "BinTrees$Person")] y_L_isAhead (Cond.code y_L_isAhead b_L_isAhead 3 (some .boolean) :: vz_tbl) ({ frames := 0, cells := 0, slots := 0, locals := 0 }) [.ref u0, .int x1, .int x2] (wL cI cZ u0 u1 u2 u3 u4 u5 u6 u7 u8 L) (some (.int (m_L_isAhead L x1 x2))) (wL cI cZ u0 u1 u2 u3 u4 u5 u6 u7 u8 L) := by
  generalize hres : (m_L_isAhead L x1 x2) = RES
  refine vz_C.of (by decide) (Nat.le_of_ble_eq_true rfl) ?_
  intro p e s m below meth c ls E hl hK hP hD hS
  obtain ⟨hx, hb, hr, hml, hown, hT, hlocks⟩ := E
  obtain ⟨Q, hQ⟩ : ∃ Q, Q = MQ below (vz_Q (dC, dI) classes (wL cI cZ u0 u1 u2 u3 u4 u5 u6 u7 u8 L) (some (.int RES)) (wL cI cZ u0 u1 u2 u3 u4 u5 u6 u7 u8 L)) ([.ref u0, .int x1, .int x2] : List Value).toArray s 0 0 (vz_A (wL cI cZ u0 u1 u2 u3 u4 u5 u6 u7 u8 L)) := ⟨_, rfl⟩
  rw [← hQ]
  have hl : lv_has ls 3 [(0, .ref u0), (1, .int x1), (2, .int x2)] := hl
  have T0 := ti_0
  have T1 := ti_1
  have Tm := ti_m1
  have T8 := ti_8
  have T39 := ti_39
  have T40 := ti_40
  have T4 := ti_4
  have T300 := ti_300
  have hS0 := hS
  refine lv_aload_n hx hb d_L_isAhead_0 rfl (lv_at hl 0 rfl) ?_
  refine va_get (D := (dC, dI)) (ci := 1) (v := .ref u3) (C := R_L) (T := F_L) (N := 10) hx hb hT i_L hown hK hP 0 rfl rfl 2 (by decide) (hT _ kw_26) (fun _ h9 => h9) rfl d_L_isAhead_1 ?_
  refine lv_iload_n hx hb d_L_isAhead_4 rfl (lv_at hl 1 rfl) ?_
  refine va_iald hx hb hK hP 3 0 rfl rfl (ti_vp (by omega) (by omega)) d_L_isAhead_5 ?_
  refine lv_aload_n hx hb d_L_isAhead_6 rfl (lv_at hl 0 rfl) ?_
  refine va_get (D := (dC, dI)) (ci := 1) (v := .ref u3) (C := R_L) (T := F_L) (N := 10) hx hb hT i_L hown hK hP 0 rfl rfl 2 (by decide) (hT _ kw_26) (fun _ h9 => h9) rfl d_L_isAhead_7 ?_
  refine lv_iload_n hx hb d_L_isAhead_10 rfl (lv_at hl 2 rfl) ?_
  refine va_iald hx hb hK hP 3 0 rfl rfl (ti_vp (by omega) (by omega)) d_L_isAhead_11 ?_
  refine lv_icmp_lt (tgt := 45) hx hb d_L_isAhead_12 (by decide) (fun c_12 => ?_) (fun c_12 => ?_)
  · have z_12 : (L.2.2.1 x1.toNatClampNeg).toInt < (L.2.2.1 x2.toNatClampNeg).toInt := Int32.lt_iff_toInt_lt.mp c_12
    refine lv_iconst (v := 1) hx hb d_L_isAhead_45 (by decide) ?_
    refine lv_goto (tgt := 50) hx hb d_L_isAhead_46 (by decide) ?_
    rw [m_L_isAhead, if_pos c_12] at hres
    subst hres
    subst hQ
    exact vz_zret hx hb hr (by decide) hlocks d_L_isAhead_50 hS rfl hP
  · have z_12 : ¬ (L.2.2.1 x1.toNatClampNeg).toInt < (L.2.2.1 x2.toNatClampNeg).toInt := mt Int32.lt_iff_toInt_lt.mpr c_12
    refine lv_aload_n hx hb d_L_isAhead_15 rfl (lv_at hl 0 rfl) ?_
    refine va_get (D := (dC, dI)) (ci := 1) (v := .ref u3) (C := R_L) (T := F_L) (N := 10) hx hb hT i_L hown hK hP 0 rfl rfl 2 (by decide) (hT _ kw_26) (fun _ h9 => h9) rfl d_L_isAhead_16 ?_
    refine lv_iload_n hx hb d_L_isAhead_19 rfl (lv_at hl 1 rfl) ?_
    refine va_iald hx hb hK hP 3 0 rfl rfl (ti_vp (by omega) (by omega)) d_L_isAhead_20 ?_
    refine lv_aload_n hx hb d_L_isAhead_21 rfl (lv_at hl 0 rfl) ?_
    refine va_get (D := (dC, dI)) (ci := 1) (v := .ref u3) (C := R_L) (T := F_L) (N := 10) hx hb hT i_L hown hK hP 0 rfl rfl 2 (by decide) (hT _ kw_26) (fun _ h9 => h9) rfl d_L_isAhead_22 ?_
    refine lv_iload_n hx hb d_L_isAhead_25 rfl (lv_at hl 2 rfl) ?_
    refine va_iald hx hb hK hP 3 0 rfl rfl (ti_vp (by omega) (by omega)) d_L_isAhead_26 ?_
    refine lv_icmp_ne (tgt := 49) hx hb d_L_isAhead_27 (by decide) (fun c_27 => ?_) (fun c_27 => ?_)
    · have z_27 : ¬ (L.2.2.1 x1.toNatClampNeg).toInt = (L.2.2.1 x2.toNatClampNeg).toInt := mt Int32.toInt_inj.mp c_27
      refine lv_iconst (v := 0) hx hb d_L_isAhead_49 (by decide) ?_
      rw [m_L_isAhead, if_neg c_12, if_neg c_27] at hres
      subst hres
      subst hQ
      exact vz_zret hx hb hr (by decide) hlocks d_L_isAhead_50 hS rfl hP
    · have z_27 : (L.2.2.1 x1.toNatClampNeg).toInt = (L.2.2.1 x2.toNatClampNeg).toInt := congrArg Int32.toInt c_27
      refine lv_aload_n hx hb d_L_isAhead_30 rfl (lv_at hl 0 rfl) ?_
      refine va_get (D := (dC, dI)) (ci := 1) (v := .ref u2) (C := R_L) (T := F_L) (N := 10) hx hb hT i_L hown hK hP 0 rfl rfl 1 (by decide) (hT _ kw_24) (fun _ h9 => h9) rfl d_L_isAhead_31 ?_
      refine lv_iload_n hx hb d_L_isAhead_34 rfl (lv_at hl 1 rfl) ?_
      refine va_iald hx hb hK hP 2 0 rfl rfl (ti_vp (by omega) (by omega)) d_L_isAhead_35 ?_
      refine lv_aload_n hx hb d_L_isAhead_36 rfl (lv_at hl 0 rfl) ?_
      refine va_get (D := (dC, dI)) (ci := 1) (v := .ref u2) (C := R_L) (T := F_L) (N := 10) hx hb hT i_L hown hK hP 0 rfl rfl 1 (by decide) (hT _ kw_24) (fun _ h9 => h9) rfl d_L_isAhead_37 ?_
      refine lv_iload_n hx hb d_L_isAhead_40 rfl (lv_at hl 2 rfl) ?_
      refine va_iald hx hb hK hP 2 0 rfl rfl (ti_vp (by omega) (by omega)) d_L_isAhead_41 ?_
      refine lv_icmp_ge (tgt := 49) hx hb d_L_isAhead_42 (by decide) (fun c_42 => ?_) (fun c_42 => ?_)
      · have z_42 : (L.2.1 x2.toNatClampNeg).toInt ≤ (L.2.1 x1.toNatClampNeg).toInt := Int32.le_iff_toInt_le.mp c_42
        refine lv_iconst (v := 0) hx hb d_L_isAhead_49 (by decide) ?_
        rw [m_L_isAhead, if_neg c_12, if_pos c_27, if_pos c_42] at hres
        subst hres
        subst hQ
        exact vz_zret hx hb hr (by decide) hlocks d_L_isAhead_50 hS rfl hP
      · have z_42 : ¬ (L.2.1 x2.toNatClampNeg).toInt ≤ (L.2.1 x1.toNatClampNeg).toInt := mt Int32.le_iff_toInt_le.mpr c_42
        refine lv_iconst (v := 1) hx hb d_L_isAhead_45 (by decide) ?_
        refine lv_goto (tgt := 50) hx hb d_L_isAhead_46 (by decide) ?_
        rw [m_L_isAhead, if_neg c_12, if_pos c_27, if_neg c_42] at hres
        subst hres
        subst hQ
        exact vz_zret hx hb hr (by decide) hlocks d_L_isAhead_50 hS rfl hP
