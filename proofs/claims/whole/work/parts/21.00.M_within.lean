theorem d_M_within_0 : decode b_M_within 0 = .ok (.iload_n 0, 1) := by decide +kernel
theorem d_M_within_1 : decode b_M_within 1 = .ok (.iload_n 1, 1) := by decide +kernel
theorem d_M_within_2 : decode b_M_within 2 = .ok (.if_icmp .lt 12, 3) := by decide +kernel
theorem d_M_within_5 : decode b_M_within 5 = .ok (.iload_n 0, 1) := by decide +kernel
theorem d_M_within_6 : decode b_M_within 6 = .ok (.iload_n 2, 1) := by decide +kernel
theorem d_M_within_7 : decode b_M_within 7 = .ok (.if_icmp .gt 7, 3) := by decide +kernel
theorem d_M_within_10 : decode b_M_within 10 = .ok (.iconst 1, 1) := by decide +kernel
theorem d_M_within_11 : decode b_M_within 11 = .ok (.goto 4, 3) := by decide +kernel
theorem d_M_within_14 : decode b_M_within 14 = .ok (.iconst 0, 1) := by decide +kernel
theorem d_M_within_15 : decode b_M_within 15 = .ok (.ireturn, 1) := by decide +kernel
def m_M_within (x0 : Int32) (x1 : Int32) (x2 : Int32) : Int32 := (if x0 < x1 then 0 else (if x2 < x0 then 0 else 1))
set_option maxHeartbeats 1000000 in
set_option maxRecDepth 100000 in
theorem c_M_within (l : Launch) (dC : Nat → ClassId) (dI : Nat → Nat → Nat) (cI cZ cQ : ClassId) (x0 : Int32) (x1 : Int32) (x2 : Int32)  : vz_C l (dC, dI) classes [(cI, .int), (cZ, .boolean), (cQ, .object "BinTrees$Person")] y_M_within (Cond.code y_M_within b_M_within 3 (some .boolean) :: vz_tbl) ({ frames := 0, cells := 0, slots := 0, locals := 0 }) [.int x0, .int x1, .int x2] (([] : va_W)) (some (.int (m_M_within x0 x1 x2))) (([] : va_W)) := by
  generalize hres : (m_M_within x0 x1 x2) = RES
  refine vz_C.of (by decide) (Nat.le_of_ble_eq_true rfl) ?_
  intro p e s m below meth c ls E hl hK hP hD hS
  obtain ⟨hx, hb, hr, hml, hown, hT, hlocks⟩ := E
  obtain ⟨Q, hQ⟩ : ∃ Q, Q = MQ below (vz_Q (dC, dI) classes (([] : va_W)) (some (.int RES)) (([] : va_W))) ([.int x0, .int x1, .int x2] : List Value).toArray s 0 0 (vz_A (([] : va_W))) := ⟨_, rfl⟩
  rw [← hQ]
  have hl : lv_has ls 3 [(0, .int x0), (1, .int x1), (2, .int x2)] := hl
  have T0 := ti_0
  have T1 := ti_1
  have Tm := ti_m1
  have T8 := ti_8
  have T39 := ti_39
  have T40 := ti_40
  have T4 := ti_4
  have T300 := ti_300
  have T2 := ti_2
  have T3 := ti_3
  have T10 := ti_10
  have T301 := ti_301
  have T43 := ti_43
  have hS0 := hS
  refine lv_iload_n hx hb d_M_within_0 rfl (lv_at hl 0 rfl) ?_
  refine lv_iload_n hx hb d_M_within_1 rfl (lv_at hl 1 rfl) ?_
  refine lv_icmp_lt (tgt := 14) hx hb d_M_within_2 (by decide) (fun c_2 => ?_) (fun c_2 => ?_)
  · have z_2 : x0.toInt < x1.toInt := Int32.lt_iff_toInt_lt.mp c_2
    refine lv_iconst (v := 0) hx hb d_M_within_14 (by decide) ?_
    rw [m_M_within, if_pos c_2] at hres
    subst hres
    subst hQ
    exact vz_zret hx hb hr (by decide) hlocks d_M_within_15 hS rfl hP
  · have z_2 : ¬ x0.toInt < x1.toInt := mt Int32.lt_iff_toInt_lt.mpr c_2
    refine lv_iload_n hx hb d_M_within_5 rfl (lv_at hl 0 rfl) ?_
    refine lv_iload_n hx hb d_M_within_6 rfl (lv_at hl 2 rfl) ?_
    refine lv_icmp_gt (tgt := 14) hx hb d_M_within_7 (by decide) (fun c_7 => ?_) (fun c_7 => ?_)
    · have z_7 : x2.toInt < x0.toInt := Int32.lt_iff_toInt_lt.mp c_7
      refine lv_iconst (v := 0) hx hb d_M_within_14 (by decide) ?_
      rw [m_M_within, if_neg c_2, if_pos c_7] at hres
      subst hres
      subst hQ
      exact vz_zret hx hb hr (by decide) hlocks d_M_within_15 hS rfl hP
    · have z_7 : ¬ x2.toInt < x0.toInt := mt Int32.lt_iff_toInt_lt.mpr c_7
      refine lv_iconst (v := 1) hx hb d_M_within_10 (by decide) ?_
      refine lv_goto (tgt := 15) hx hb d_M_within_11 (by decide) ?_
      rw [m_M_within, if_neg c_2, if_neg c_7] at hres
      subst hres
      subst hQ
      exact vz_zret hx hb hr (by decide) hlocks d_M_within_15 hS rfl hP
theorem wi_b {x0 x1 x2 : Int32} : narrow .boolean (.int (m_M_within x0 x1 x2)) = .int (m_M_within x0 x1 x2) := by
  rw [m_M_within]
  split
  · decide
  · split <;> decide
