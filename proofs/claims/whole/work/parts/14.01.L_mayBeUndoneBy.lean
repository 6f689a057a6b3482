theorem d_L_mayBeUndoneBy_0 : decode b_L_mayBeUndoneBy 0 = .ok (.aload_n 0, 1) := by decide +kernel
theorem d_L_mayBeUndoneBy_1 : decode b_L_mayBeUndoneBy 1 = .ok (.getfield 15, 3) := by decide +kernel
theorem d_L_mayBeUndoneBy_4 : decode b_L_mayBeUndoneBy 4 = .ok (.iload_n 2, 1) := by decide +kernel
theorem d_L_mayBeUndoneBy_5 : decode b_L_mayBeUndoneBy 5 = .ok (.iaload, 1) := by decide +kernel
theorem d_L_mayBeUndoneBy_6 : decode b_L_mayBeUndoneBy 6 = .ok (.iload_n 1, 1) := by decide +kernel
theorem d_L_mayBeUndoneBy_7 : decode b_L_mayBeUndoneBy 7 = .ok (.if_icmp .ne 36, 3) := by decide +kernel
theorem d_L_mayBeUndoneBy_10 : decode b_L_mayBeUndoneBy 10 = .ok (.aload_n 0, 1) := by decide +kernel
theorem d_L_mayBeUndoneBy_11 : decode b_L_mayBeUndoneBy 11 = .ok (.getfield 9, 3) := by decide +kernel
theorem d_L_mayBeUndoneBy_14 : decode b_L_mayBeUndoneBy 14 = .ok (.iload_n 2, 1) := by decide +kernel
theorem d_L_mayBeUndoneBy_15 : decode b_L_mayBeUndoneBy 15 = .ok (.iaload, 1) := by decide +kernel
theorem d_L_mayBeUndoneBy_16 : decode b_L_mayBeUndoneBy 16 = .ok (.iconst 1, 1) := by decide +kernel
theorem d_L_mayBeUndoneBy_17 : decode b_L_mayBeUndoneBy 17 = .ok (.if_icmp .lt 26, 3) := by decide +kernel
theorem d_L_mayBeUndoneBy_20 : decode b_L_mayBeUndoneBy 20 = .ok (.aload_n 0, 1) := by decide +kernel
theorem d_L_mayBeUndoneBy_21 : decode b_L_mayBeUndoneBy 21 = .ok (.getfield 9, 3) := by decide +kernel
theorem d_L_mayBeUndoneBy_24 : decode b_L_mayBeUndoneBy 24 = .ok (.iload_n 2, 1) := by decide +kernel
theorem d_L_mayBeUndoneBy_25 : decode b_L_mayBeUndoneBy 25 = .ok (.iaload, 1) := by decide +kernel
theorem d_L_mayBeUndoneBy_26 : decode b_L_mayBeUndoneBy 26 = .ok (.iconst 3, 1) := by decide +kernel
theorem d_L_mayBeUndoneBy_27 : decode b_L_mayBeUndoneBy 27 = .ok (.if_icmp .gt 16, 3) := by decide +kernel
theorem d_L_mayBeUndoneBy_30 : decode b_L_mayBeUndoneBy 30 = .ok (.aload_n 0, 1) := by decide +kernel
theorem d_L_mayBeUndoneBy_31 : decode b_L_mayBeUndoneBy 31 = .ok (.getfield 30, 3) := by decide +kernel
theorem d_L_mayBeUndoneBy_34 : decode b_L_mayBeUndoneBy 34 = .ok (.iload_n 2, 1) := by decide +kernel
theorem d_L_mayBeUndoneBy_35 : decode b_L_mayBeUndoneBy 35 = .ok (.iaload, 1) := by decide +kernel
theorem d_L_mayBeUndoneBy_36 : decode b_L_mayBeUndoneBy 36 = .ok (.ifCond .ne 7, 3) := by decide +kernel
theorem d_L_mayBeUndoneBy_39 : decode b_L_mayBeUndoneBy 39 = .ok (.iconst 1, 1) := by decide +kernel
theorem d_L_mayBeUndoneBy_40 : decode b_L_mayBeUndoneBy 40 = .ok (.goto 4, 3) := by decide +kernel
theorem d_L_mayBeUndoneBy_43 : decode b_L_mayBeUndoneBy 43 = .ok (.iconst 0, 1) := by decide +kernel
theorem d_L_mayBeUndoneBy_44 : decode b_L_mayBeUndoneBy 44 = .ok (.ireturn, 1) := by decide +kernel
def m_L_mayBeUndoneBy (L : cL) (x1 : Int32) (x2 : Int32) : Int32 := (if (L.2.1 x2.toNatClampNeg) = x1 then (if (L.1 x2.toNatClampNeg) < 1 then 0 else (if 3 < (L.1 x2.toNatClampNeg) then 0 else (if (L.2.2.2.2.2.2.1 x2.toNatClampNeg) = 0 then 1 else 0))) else 0)
set_option maxHeartbeats 1000000 in
set_option maxRecDepth 100000 in
theorem c_L_mayBeUndoneBy (l : Launch) (dC : Nat → ClassId) (dI : Nat → Nat → Nat) (cI cZ cQ : ClassId) (u0 : Nat) (u1 : Nat) (u2 : Nat) (u3 : Nat) (u4 : Nat) (u5 : Nat) (u6 : Nat) (u7 : Nat) (u8 : Nat) (L : cL) (x1 : Int32) (x2 : Int32) (h2 : 0 ≤ x2.toInt ∧ x2.toInt < 301) : vz_C l (dC, dI) classes [(cI, .int), (cZ, .boolean), (cQ, .object "BinTrees$Person")] y_L_mayBeUndoneBy (Cond.code y_L_mayBeUndoneBy b_L_mayBeUndoneBy 3 (some .boolean) :: vz_tbl) ({ frames := 0, cells := 0, slots := 0, locals := 0 }) [.ref u0, .int x1, .int x2] (wL cI cZ u0 u1 u2 u3 u4 u5 u6 u7 u8 L) (some (.int (m_L_mayBeUndoneBy L x1 x2))) (wL cI cZ u0 u1 u2 u3 u4 u5 u6 u7 u8 L) := by
  generalize hres : (m_L_mayBeUndoneBy L x1 x2) = RES
  refine vz_C.of (by decide) (Nat.le_of_ble_eq_true rfl) ?_
  intro p e s m below meth c ls E hl hK hP hD hS
  obtain ⟨hx, hb, hr, hml, hown, hT, hlocks⟩ := E
  obtain ⟨Q, hQ⟩ : ∃ Q, Q = MQ below (vz_Q (dC, dI) classes (wL cI cZ u0 u1 u2 u3 u4 u5 u6 u7 u8 L) (some (.int RES)) (wL cI cZ u0 u1 u2 u3 u4 u5 u6 u7 u8 L)) ([.ref u0, .int x1, .int x2] : List Value).toArray s 0 0 (vz_A (wL cI cZ u0 u1 u2 u3 u4 u5 u6 u7 u8 L)) := ⟨_, rfl⟩
  rw [← hQ]
  have hl : lv_has ls 3 [(0, .ref u0), (1, .int x1), (2, .int x2)] := hl
  have T0 := ti_0
  have T1 := ti_1
  have Tm := ti_m1
  have T8 := ti_8
  have T39 := ti_39
  have T40 := ti_40
  have T4 := ti_4
  have T300 := ti_300
  have hS0 := hS
  refine lv_aload_n hx hb d_L_mayBeUndoneBy_0 rfl (lv_at hl 0 rfl) ?_
  refine va_get (D := (dC, dI)) (ci := 1) (v := .ref u2) (C := R_L) (T := F_L) (N := 10) hx hb hT i_L hown hK hP 0 rfl rfl 1 (by decide) (hT _ kw_24) (fun _ h9 => h9) rfl d_L_mayBeUndoneBy_1 ?_
  refine lv_iload_n hx hb d_L_mayBeUndoneBy_4 rfl (lv_at hl 2 rfl) ?_
  refine va_iald hx hb hK hP 2 0 rfl rfl (ti_vp (by omega) (by omega)) d_L_mayBeUndoneBy_5 ?_
  refine lv_iload_n hx hb d_L_mayBeUndoneBy_6 rfl (lv_at hl 1 rfl) ?_
  refine lv_icmp_ne (tgt := 43) hx hb d_L_mayBeUndoneBy_7 (by decide) (fun c_7 => ?_) (fun c_7 => ?_)
  · have z_7 : ¬ (L.2.1 x2.toNatClampNeg).toInt = x1.toInt := mt Int32.toInt_inj.mp c_7
    refine lv_iconst (v := 0) hx hb d_L_mayBeUndoneBy_43 (by decide) ?_
    rw [m_L_mayBeUndoneBy, if_neg c_7] at hres
    subst hres
    subst hQ
    exact vz_zret hx hb hr (by decide) hlocks d_L_mayBeUndoneBy_44 hS rfl hP
  · have z_7 : (L.2.1 x2.toNatClampNeg).toInt = x1.toInt := congrArg Int32.toInt c_7
    refine lv_aload_n hx hb d_L_mayBeUndoneBy_10 rfl (lv_at hl 0 rfl) ?_
    refine va_get (D := (dC, dI)) (ci := 1) (v := .ref u1) (C := R_L) (T := F_L) (N := 10) hx hb hT i_L hown hK hP 0 rfl rfl 0 (by decide) (hT _ kw_21) (fun _ h9 => h9) rfl d_L_mayBeUndoneBy_11 ?_
    refine lv_iload_n hx hb d_L_mayBeUndoneBy_14 rfl (lv_at hl 2 rfl) ?_
    refine va_iald hx hb hK hP 1 0 rfl rfl (ti_vp (by omega) (by omega)) d_L_mayBeUndoneBy_15 ?_
    refine lv_iconst (v := 1) hx hb d_L_mayBeUndoneBy_16 (by decide) ?_
    refine lv_icmp_lt (tgt := 43) hx hb d_L_mayBeUndoneBy_17 (by decide) (fun c_17 => ?_) (fun c_17 => ?_)
    · have z_17 : (L.1 x2.toNatClampNeg).toInt < (1 : Int32).toInt := Int32.lt_iff_toInt_lt.mp c_17
      refine lv_iconst (v := 0) hx hb d_L_mayBeUndoneBy_43 (by decide) ?_
      rw [m_L_mayBeUndoneBy, if_pos c_7, if_pos c_17] at hres
      subst hres
      subst hQ
      exact vz_zret hx hb hr (by decide) hlocks d_L_mayBeUndoneBy_44 hS rfl hP
    · have z_17 : ¬ (L.1 x2.toNatClampNeg).toInt < (1 : Int32).toInt := mt Int32.lt_iff_toInt_lt.mpr c_17
      refine lv_aload_n hx hb d_L_mayBeUndoneBy_20 rfl (lv_at hl 0 rfl) ?_
      refine va_get (D := (dC, dI)) (ci := 1) (v := .ref u1) (C := R_L) (T := F_L) (N := 10) hx hb hT i_L hown hK hP 0 rfl rfl 0 (by decide) (hT _ kw_21) (fun _ h9 => h9) rfl d_L_mayBeUndoneBy_21 ?_
      refine lv_iload_n hx hb d_L_mayBeUndoneBy_24 rfl (lv_at hl 2 rfl) ?_
      refine va_iald hx hb hK hP 1 0 rfl rfl (ti_vp (by omega) (by omega)) d_L_mayBeUndoneBy_25 ?_
      refine lv_iconst (v := 3) hx hb d_L_mayBeUndoneBy_26 (by decide) ?_
      refine lv_icmp_gt (tgt := 43) hx hb d_L_mayBeUndoneBy_27 (by decide) (fun c_27 => ?_) (fun c_27 => ?_)
      · have z_27 : (3 : Int32).toInt < (L.1 x2.toNatClampNeg).toInt := Int32.lt_iff_toInt_lt.mp c_27
        refine lv_iconst (v := 0) hx hb d_L_mayBeUndoneBy_43 (by decide) ?_
        rw [m_L_mayBeUndoneBy, if_pos c_7, if_neg c_17, if_pos c_27] at hres
        subst hres
        subst hQ
        exact vz_zret hx hb hr (by decide) hlocks d_L_mayBeUndoneBy_44 hS rfl hP
      · have z_27 : ¬ (3 : Int32).toInt < (L.1 x2.toNatClampNeg).toInt := mt Int32.lt_iff_toInt_lt.mpr c_27
        refine lv_aload_n hx hb d_L_mayBeUndoneBy_30 rfl (lv_at hl 0 rfl) ?_
        refine va_get (D := (dC, dI)) (ci := 1) (v := .ref u7) (C := R_L) (T := F_L) (N := 10) hx hb hT i_L hown hK hP 0 rfl rfl 6 (by decide) (hT _ kw_38) (fun _ h9 => h9) rfl d_L_mayBeUndoneBy_31 ?_
        refine lv_iload_n hx hb d_L_mayBeUndoneBy_34 rfl (lv_at hl 2 rfl) ?_
        refine va_iald hx hb hK hP 7 0 rfl rfl (ti_vp (by omega) (by omega)) d_L_mayBeUndoneBy_35 ?_
        refine lv_if_ne (tgt := 43) hx hb d_L_mayBeUndoneBy_36 (by decide) (fun c_36 => ?_) (fun c_36 => ?_)
        · have z_36 : ¬ (L.2.2.2.2.2.2.1 x2.toNatClampNeg).toInt = (0 : Int32).toInt := mt Int32.toInt_inj.mp c_36
          refine lv_iconst (v := 0) hx hb d_L_mayBeUndoneBy_43 (by decide) ?_
          rw [m_L_mayBeUndoneBy, if_pos c_7, if_neg c_17, if_neg c_27, if_neg c_36] at hres
          subst hres
          subst hQ
          exact vz_zret hx hb hr (by decide) hlocks d_L_mayBeUndoneBy_44 hS rfl hP
        · have z_36 : (L.2.2.2.2.2.2.1 x2.toNatClampNeg).toInt = (0 : Int32).toInt := congrArg Int32.toInt c_36
          refine lv_iconst (v := 1) hx hb d_L_mayBeUndoneBy_39 (by decide) ?_
          refine lv_goto (tgt := 44) hx hb d_L_mayBeUndoneBy_40 (by decide) ?_
          rw [m_L_mayBeUndoneBy, if_pos c_7, if_neg c_17, if_neg c_27, if_pos c_36] at hres
          subst hres
          subst hQ
          exact vz_zret hx hb hr (by decide) hlocks d_L_mayBeUndoneBy_44 hS rfl hP
