theorem d_B_isNode_0 : decode b_B_isNode 0 = .ok (.iload_n 0, 1) := by decide +kernel
theorem d_B_isNode_1 : decode b_B_isNode 1 = .ok (.ifCond .lt 12, 3) := by decide +kernel
theorem d_B_isNode_4 : decode b_B_isNode 4 = .ok (.iload_n 0, 1) := by decide +kernel
theorem d_B_isNode_5 : decode b_B_isNode 5 = .ok (.iconst 4, 1) := by decide +kernel
theorem d_B_isNode_6 : decode b_B_isNode 6 = .ok (.if_icmp .ge 7, 3) := by decide +kernel
theorem d_B_isNode_9 : decode b_B_isNode 9 = .ok (.iconst 1, 1) := by decide +kernel
theorem d_B_isNode_10 : decode b_B_isNode 10 = .ok (.goto 4, 3) := by decide +kernel
theorem d_B_isNode_13 : decode b_B_isNode 13 = .ok (.iconst 0, 1) := by decide +kernel
theorem d_B_isNode_14 : decode b_B_isNode 14 = .ok (.ireturn, 1) := by decide +kernel
theorem d_B_isObject_0 : decode b_B_isObject 0 = .ok (.iload_n 1, 1) := by decide +kernel
theorem d_B_isObject_1 : decode b_B_isObject 1 = .ok (.ifCond .lt 18, 3) := by decide +kernel
theorem d_B_isObject_4 : decode b_B_isObject 4 = .ok (.iload_n 1, 1) := by decide +kernel
theorem d_B_isObject_5 : decode b_B_isObject 5 = .ok (.aload_n 0, 1) := by decide +kernel
theorem d_B_isObject_6 : decode b_B_isObject 6 = .ok (.getfield 10, 3) := by decide +kernel
theorem d_B_isObject_9 : decode b_B_isObject 9 = .ok (.getfield 27, 3) := by decide +kernel
theorem d_B_isObject_12 : decode b_B_isObject 12 = .ok (.if_icmp .gt 7, 3) := by decide +kernel
theorem d_B_isObject_15 : decode b_B_isObject 15 = .ok (.iconst 1, 1) := by decide +kernel
theorem d_B_isObject_16 : decode b_B_isObject 16 = .ok (.goto 4, 3) := by decide +kernel
theorem d_B_isObject_19 : decode b_B_isObject 19 = .ok (.iconst 0, 1) := by decide +kernel
theorem d_B_isObject_20 : decode b_B_isObject 20 = .ok (.ireturn, 1) := by decide +kernel
theorem d_B_isMade_0 : decode b_B_isMade 0 = .ok (.iload_n 1, 1) := by decide +kernel
theorem d_B_isMade_1 : decode b_B_isMade 1 = .ok (.ifCond .le 18, 3) := by decide +kernel
theorem d_B_isMade_4 : decode b_B_isMade 4 = .ok (.iload_n 1, 1) := by decide +kernel
theorem d_B_isMade_5 : decode b_B_isMade 5 = .ok (.aload_n 0, 1) := by decide +kernel
theorem d_B_isMade_6 : decode b_B_isMade 6 = .ok (.getfield 10, 3) := by decide +kernel
theorem d_B_isMade_9 : decode b_B_isMade 9 = .ok (.getfield 27, 3) := by decide +kernel
theorem d_B_isMade_12 : decode b_B_isMade 12 = .ok (.if_icmp .gt 7, 3) := by decide +kernel
theorem d_B_isMade_15 : decode b_B_isMade 15 = .ok (.iconst 1, 1) := by decide +kernel
theorem d_B_isMade_16 : decode b_B_isMade 16 = .ok (.goto 4, 3) := by decide +kernel
theorem d_B_isMade_19 : decode b_B_isMade 19 = .ok (.iconst 0, 1) := by decide +kernel
theorem d_B_isMade_20 : decode b_B_isMade 20 = .ok (.ireturn, 1) := by decide +kernel
theorem d_B_isRow_0 : decode b_B_isRow 0 = .ok (.iload_n 1, 1) := by decide +kernel
theorem d_B_isRow_1 : decode b_B_isRow 1 = .ok (.iconst 1, 1) := by decide +kernel
theorem d_B_isRow_2 : decode b_B_isRow 2 = .ok (.if_icmp .lt 18, 3) := by decide +kernel
theorem d_B_isRow_5 : decode b_B_isRow 5 = .ok (.iload_n 1, 1) := by decide +kernel
theorem d_B_isRow_6 : decode b_B_isRow 6 = .ok (.aload_n 0, 1) := by decide +kernel
theorem d_B_isRow_7 : decode b_B_isRow 7 = .ok (.getfield 10, 3) := by decide +kernel
theorem d_B_isRow_10 : decode b_B_isRow 10 = .ok (.getfield 64, 3) := by decide +kernel
theorem d_B_isRow_13 : decode b_B_isRow 13 = .ok (.if_icmp .gt 7, 3) := by decide +kernel
theorem d_B_isRow_16 : decode b_B_isRow 16 = .ok (.iconst 1, 1) := by decide +kernel
theorem d_B_isRow_17 : decode b_B_isRow 17 = .ok (.goto 4, 3) := by decide +kernel
theorem d_B_isRow_20 : decode b_B_isRow 20 = .ok (.iconst 0, 1) := by decide +kernel
theorem d_B_isRow_21 : decode b_B_isRow 21 = .ok (.ireturn, 1) := by decide +kernel
theorem d_B_mayWrite_0 : decode b_B_mayWrite 0 = .ok (.iload_n 1, 1) := by decide +kernel
theorem d_B_mayWrite_1 : decode b_B_mayWrite 1 = .ok (.invokestatic 55, 3) := by decide +kernel
theorem d_B_mayWrite_4 : decode b_B_mayWrite 4 = .ok (.ifCond .eq 20, 3) := by decide +kernel
theorem d_B_mayWrite_7 : decode b_B_mayWrite 7 = .ok (.aload_n 0, 1) := by decide +kernel
theorem d_B_mayWrite_8 : decode b_B_mayWrite 8 = .ok (.getfield 10, 3) := by decide +kernel
theorem d_B_mayWrite_11 : decode b_B_mayWrite 11 = .ok (.getfield 64, 3) := by decide +kernel
theorem d_B_mayWrite_14 : decode b_B_mayWrite 14 = .ok (.sipush 300, 3) := by decide +kernel
theorem d_B_mayWrite_17 : decode b_B_mayWrite 17 = .ok (.if_icmp .ge 7, 3) := by decide +kernel
theorem d_B_mayWrite_20 : decode b_B_mayWrite 20 = .ok (.iconst 1, 1) := by decide +kernel
theorem d_B_mayWrite_21 : decode b_B_mayWrite 21 = .ok (.goto 4, 3) := by decide +kernel
theorem d_B_mayWrite_24 : decode b_B_mayWrite 24 = .ok (.iconst 0, 1) := by decide +kernel
theorem d_B_mayWrite_25 : decode b_B_mayWrite 25 = .ok (.ireturn, 1) := by decide +kernel
def m_B_isNode (x0 : Int32) : Int32 := (if x0 < 0 then 0 else (if 4 ≤ x0 then 0 else 1))
set_option maxHeartbeats 1000000 in
set_option maxRecDepth 100000 in
theorem c_B_isNode (l : Launch) (dC : Nat → ClassId) (dI : Nat → Nat → Nat) (cI cZ cQ : ClassId) (x0 : Int32)  : vz_C l (dC, dI) classes [(cI, .int), (cZ, .boolean), (cQ, .object "BinTrees$Person")] y_B_isNode (Cond.code y_B_isNode b_B_isNode 1 (some .boolean) :: vz_tbl) ({ frames := 0, cells := 0, slots := 0, locals := 0 }) [.int x0] (([] : va_W)) (some (.int (m_B_isNode x0))) (([] : va_W)) := by
  generalize hres : (m_B_isNode x0) = RES
  refine vz_C.of (by decide) (Nat.le_of_ble_eq_true rfl) ?_
  intro p e s m below meth c ls E hl hK hP hD hS
  obtain ⟨hx, hb, hr, hml, hown, hT, hlocks⟩ := E
  obtain ⟨Q, hQ⟩ : ∃ Q, Q = MQ below (vz_Q (dC, dI) classes (([] : va_W)) (some (.int RES)) (([] : va_W))) ([.int x0] : List Value).toArray s 0 0 (vz_A (([] : va_W))) := ⟨_, rfl⟩
  rw [← hQ]
  have hl : lv_has ls 1 [(0, .int x0)] := hl
  have T0 := ti_0
  have T1 := ti_1
  have Tm := ti_m1
  have T8 := ti_8
  have T39 := ti_39
  have T40 := ti_40
  have T4 := ti_4
  have T300 := ti_300
  have hS0 := hS
  refine lv_iload_n hx hb d_B_isNode_0 rfl (lv_at hl 0 rfl) ?_
  refine lv_if_lt (tgt := 13) hx hb d_B_isNode_1 (by decide) (fun c_1 => ?_) (fun c_1 => ?_)
  · have z_1 : x0.toInt < (0 : Int32).toInt := Int32.lt_iff_toInt_lt.mp c_1
    refine lv_iconst (v := 0) hx hb d_B_isNode_13 (by decide) ?_
    rw [m_B_isNode, if_pos c_1] at hres
    subst hres
    subst hQ
    exact vz_zret hx hb hr (by decide) hlocks d_B_isNode_14 hS rfl hP
  · have z_1 : ¬ x0.toInt < (0 : Int32).toInt := mt Int32.lt_iff_toInt_lt.mpr c_1
    refine lv_iload_n hx hb d_B_isNode_4 rfl (lv_at hl 0 rfl) ?_
    refine lv_iconst (v := 4) hx hb d_B_isNode_5 (by decide) ?_
    refine lv_icmp_ge (tgt := 13) hx hb d_B_isNode_6 (by decide) (fun c_6 => ?_) (fun c_6 => ?_)
    · have z_6 : (4 : Int32).toInt ≤ x0.toInt := Int32.le_iff_toInt_le.mp c_6
      refine lv_iconst (v := 0) hx hb d_B_isNode_13 (by decide) ?_
      rw [m_B_isNode, if_neg c_1, if_pos c_6] at hres
      subst hres
      subst hQ
      exact vz_zret hx hb hr (by decide) hlocks d_B_isNode_14 hS rfl hP
    · have z_6 : ¬ (4 : Int32).toInt ≤ x0.toInt := mt Int32.le_iff_toInt_le.mpr c_6
      refine lv_iconst (v := 1) hx hb d_B_isNode_9 (by decide) ?_
      refine lv_goto (tgt := 14) hx hb d_B_isNode_10 (by decide) ?_
      rw [m_B_isNode, if_neg c_1, if_neg c_6] at hres
      subst hres
      subst hQ
      exact vz_zret hx hb hr (by decide) hlocks d_B_isNode_14 hS rfl hP

def m_B_isObject (L : cL) (x1 : Int32) : Int32 := (if x1 < 0 then 0 else (if L.2.2.2.2.2.2.2.2.2 < x1 then 0 else 1))
set_option maxHeartbeats 1000000 in
set_option maxRecDepth 100000 in
theorem c_B_isObject (l : Launch) (dC : Nat → ClassId) (dI : Nat → Nat → Nat) (cI cZ cQ : ClassId) (b0 : Nat) (b1 : Nat) (F : Nat → Option Nat) (u0 : Nat) (u1 : Nat) (u2 : Nat) (u3 : Nat) (u4 : Nat) (u5 : Nat) (u6 : Nat) (u7 : Nat) (u8 : Nat) (L : cL) (x1 : Int32)  : vz_C l (dC, dI) classes [(cI, .int), (cZ, .boolean), (cQ, .object "BinTrees$Person")] y_B_isObject (Cond.code y_B_isObject b_B_isObject 2 (some .boolean) :: vz_tbl) ({ frames := 0, cells := 0, slots := 0, locals := 0 }) [.ref b0, .int x1] (wB cI cZ cQ b0 b1 u0 F ++ wL cI cZ u0 u1 u2 u3 u4 u5 u6 u7 u8 L) (some (.int (m_B_isObject L x1))) (wB cI cZ cQ b0 b1 u0 F ++ wL cI cZ u0 u1 u2 u3 u4 u5 u6 u7 u8 L) := by
  generalize hres : (m_B_isObject L x1) = RES
  refine vz_C.of (by decide) (Nat.le_of_ble_eq_true rfl) ?_
  intro p e s m below meth c ls E hl hK hP hD hS
  obtain ⟨hx, hb, hr, hml, hown, hT, hlocks⟩ := E
  obtain ⟨Q, hQ⟩ : ∃ Q, Q = MQ below (vz_Q (dC, dI) classes (wB cI cZ cQ b0 b1 u0 F ++ wL cI cZ u0 u1 u2 u3 u4 u5 u6 u7 u8 L) (some (.int RES)) (wB cI cZ cQ b0 b1 u0 F ++ wL cI cZ u0 u1 u2 u3 u4 u5 u6 u7 u8 L)) ([.ref b0, .int x1] : List Value).toArray s 0 0 (vz_A (wB cI cZ cQ b0 b1 u0 F ++ wL cI cZ u0 u1 u2 u3 u4 u5 u6 u7 u8 L)) := ⟨_, rfl⟩
  rw [← hQ]
  have hl : lv_has ls 2 [(0, .ref b0), (1, .int x1)] := hl
  have T0 := ti_0
  have T1 := ti_1
  have Tm := ti_m1
  have T8 := ti_8
  have T39 := ti_39
  have T40 := ti_40
  have T4 := ti_4
  have T300 := ti_300
  have hS0 := hS
  refine lv_iload_n hx hb d_B_isObject_0 rfl (lv_at hl 1 rfl) ?_
  refine lv_if_lt (tgt := 19) hx hb d_B_isObject_1 (by decide) (fun c_1 => ?_) (fun c_1 => ?_)
  · have z_1 : x1.toInt < (0 : Int32).toInt := Int32.lt_iff_toInt_lt.mp c_1
    refine lv_iconst (v := 0) hx hb d_B_isObject_19 (by decide) ?_
    rw [m_B_isObject, if_pos c_1] at hres
    subst hres
    subst hQ
    exact vz_zret hx hb hr (by decide) hlocks d_B_isObject_20 hS rfl hP
  · have z_1 : ¬ x1.toInt < (0 : Int32).toInt := mt Int32.lt_iff_toInt_lt.mpr c_1
    refine lv_iload_n hx hb d_B_isObject_4 rfl (lv_at hl 1 rfl) ?_
    refine lv_aload_n hx hb d_B_isObject_5 rfl (lv_at hl 0 rfl) ?_
    refine va_get (D := (dC, dI)) (ci := 3) (v := .ref u0) (C := R_B) (T := F_B) (N := 2) hx hb hT i_B hown hK hP 0 rfl rfl 0 (by decide) (hT _ kw_128) (fun _ h9 => h9) rfl d_B_isObject_6 ?_
    refine va_get (D := (dC, dI)) (ci := 1) (v := .int L.2.2.2.2.2.2.2.2.2) (C := R_L) (T := F_L) (N := 10) hx hb hT i_L hown hK hP 2 rfl rfl 9 (by decide) (hT _ kw_46) (fun _ h9 => h9) rfl d_B_isObject_9 ?_
    refine lv_icmp_gt (tgt := 19) hx hb d_B_isObject_12 (by decide) (fun c_12 => ?_) (fun c_12 => ?_)
    · have z_12 : L.2.2.2.2.2.2.2.2.2.toInt < x1.toInt := Int32.lt_iff_toInt_lt.mp c_12
      refine lv_iconst (v := 0) hx hb d_B_isObject_19 (by decide) ?_
      rw [m_B_isObject, if_neg c_1, if_pos c_12] at hres
      subst hres
      subst hQ
      exact vz_zret hx hb hr (by decide) hlocks d_B_isObject_20 hS rfl hP
    · have z_12 : ¬ L.2.2.2.2.2.2.2.2.2.toInt < x1.toInt := mt Int32.lt_iff_toInt_lt.mpr c_12
      refine lv_iconst (v := 1) hx hb d_B_isObject_15 (by decide) ?_
      refine lv_goto (tgt := 20) hx hb d_B_isObject_16 (by decide) ?_
      rw [m_B_isObject, if_neg c_1, if_neg c_12] at hres
      subst hres
      subst hQ
      exact vz_zret hx hb hr (by decide) hlocks d_B_isObject_20 hS rfl hP

def m_B_isMade (L : cL) (x1 : Int32) : Int32 := (if x1 ≤ 0 then 0 else (if L.2.2.2.2.2.2.2.2.2 < x1 then 0 else 1))
set_option maxHeartbeats 1000000 in
set_option maxRecDepth 100000 in
theorem c_B_isMade (l : Launch) (dC : Nat → ClassId) (dI : Nat → Nat → Nat) (cI cZ cQ : ClassId) (b0 : Nat) (b1 : Nat) (F : Nat → Option Nat) (u0 : Nat) (u1 : Nat) (u2 : Nat) (u3 : Nat) (u4 : Nat) (u5 : Nat) (u6 : Nat) (u7 : Nat) (u8 : Nat) (L : cL) (x1 : Int32)  : vz_C l (dC, dI) classes [(cI, .int), (cZ, .boolean), (cQ, .object "BinTrees$Person")] y_B_isMade (Cond.code y_B_isMade b_B_isMade 2 (some .boolean) :: vz_tbl) ({ frames := 0, cells := 0, slots := 0, locals := 0 }) [.ref b0, .int x1] (wB cI cZ cQ b0 b1 u0 F ++ wL cI cZ u0 u1 u2 u3 u4 u5 u6 u7 u8 L) (some (.int (m_B_isMade L x1))) (wB cI cZ cQ b0 b1 u0 F ++ wL cI cZ u0 u1 u2 u3 u4 u5 u6 u7 u8 L) := by
  generalize hres : (m_B_isMade L x1) = RES
  refine vz_C.of (by decide) (Nat.le_of_ble_eq_true rfl) ?_
  intro p e s m below meth c ls E hl hK hP hD hS
  obtain ⟨hx, hb, hr, hml, hown, hT, hlocks⟩ := E
  obtain ⟨Q, hQ⟩ : ∃ Q, Q = MQ below (vz_Q (dC, dI) classes (wB cI cZ cQ b0 b1 u0 F ++ wL cI cZ u0 u1 u2 u3 u4 u5 u6 u7 u8 L) (some (.int RES)) (wB cI cZ cQ b0 b1 u0 F ++ wL cI cZ u0 u1 u2 u3 u4 u5 u6 u7 u8 L)) ([.ref b0, .int x1] : List Value).toArray s 0 0 (vz_A (wB cI cZ cQ b0 b1 u0 F ++ wL cI cZ u0 u1 u2 u3 u4 u5 u6 u7 u8 L)) := ⟨_, rfl⟩
  rw [← hQ]
  have hl : lv_has ls 2 [(0, .ref b0), (1, .int x1)] := hl
  have T0 := ti_0
  have T1 := ti_1
  have Tm := ti_m1
  have T8 := ti_8
  have T39 := ti_39
  have T40 := ti_40
  have T4 := ti_4
  have T300 := ti_300
  have hS0 := hS
  refine lv_iload_n hx hb d_B_isMade_0 rfl (lv_at hl 1 rfl) ?_
  refine lv_if_le (tgt := 19) hx hb d_B_isMade_1 (by decide) (fun c_1 => ?_) (fun c_1 => ?_)
  · have z_1 : x1.toInt ≤ (0 : Int32).toInt := Int32.le_iff_toInt_le.mp c_1
    refine lv_iconst (v := 0) hx hb d_B_isMade_19 (by decide) ?_
    rw [m_B_isMade, if_pos c_1] at hres
    subst hres
    subst hQ
    exact vz_zret hx hb hr (by decide) hlocks d_B_isMade_20 hS rfl hP
  · have z_1 : ¬ x1.toInt ≤ (0 : Int32).toInt := mt Int32.le_iff_toInt_le.mpr c_1
    refine lv_iload_n hx hb d_B_isMade_4 rfl (lv_at hl 1 rfl) ?_
    refine lv_aload_n hx hb d_B_isMade_5 rfl (lv_at hl 0 rfl) ?_
    refine va_get (D := (dC, dI)) (ci := 3) (v := .ref u0) (C := R_B) (T := F_B) (N := 2) hx hb hT i_B hown hK hP 0 rfl rfl 0 (by decide) (hT _ kw_128) (fun _ h9 => h9) rfl d_B_isMade_6 ?_
    refine va_get (D := (dC, dI)) (ci := 1) (v := .int L.2.2.2.2.2.2.2.2.2) (C := R_L) (T := F_L) (N := 10) hx hb hT i_L hown hK hP 2 rfl rfl 9 (by decide) (hT _ kw_46) (fun _ h9 => h9) rfl d_B_isMade_9 ?_
    refine lv_icmp_gt (tgt := 19) hx hb d_B_isMade_12 (by decide) (fun c_12 => ?_) (fun c_12 => ?_)
    · have z_12 : L.2.2.2.2.2.2.2.2.2.toInt < x1.toInt := Int32.lt_iff_toInt_lt.mp c_12
      refine lv_iconst (v := 0) hx hb d_B_isMade_19 (by decide) ?_
      rw [m_B_isMade, if_neg c_1, if_pos c_12] at hres
      subst hres
      subst hQ
      exact vz_zret hx hb hr (by decide) hlocks d_B_isMade_20 hS rfl hP
    · have z_12 : ¬ L.2.2.2.2.2.2.2.2.2.toInt < x1.toInt := mt Int32.lt_iff_toInt_lt.mpr c_12
      refine lv_iconst (v := 1) hx hb d_B_isMade_15 (by decide) ?_
      refine lv_goto (tgt := 20) hx hb d_B_isMade_16 (by decide) ?_
      rw [m_B_isMade, if_neg c_1, if_neg c_12] at hres
      subst hres
      subst hQ
      exact vz_zret hx hb hr (by decide) hlocks d_B_isMade_20 hS rfl hP

def m_B_isRow (L : cL) (x1 : Int32) : Int32 := (if x1 < 1 then 0 else (if L.2.2.2.2.2.2.2.2.1 < x1 then 0 else 1))
set_option maxHeartbeats 1000000 in
set_option maxRecDepth 100000 in
theorem c_B_isRow (l : Launch) (dC : Nat → ClassId) (dI : Nat → Nat → Nat) (cI cZ cQ : ClassId) (b0 : Nat) (b1 : Nat) (F : Nat → Option Nat) (u0 : Nat) (u1 : Nat) (u2 : Nat) (u3 : Nat) (u4 : Nat) (u5 : Nat) (u6 : Nat) (u7 : Nat) (u8 : Nat) (L : cL) (x1 : Int32)  : vz_C l (dC, dI) classes [(cI, .int), (cZ, .boolean), (cQ, .object "BinTrees$Person")] y_B_isRow (Cond.code y_B_isRow b_B_isRow 2 (some .boolean) :: vz_tbl) ({ frames := 0, cells := 0, slots := 0, locals := 0 }) [.ref b0, .int x1] (wB cI cZ cQ b0 b1 u0 F ++ wL cI cZ u0 u1 u2 u3 u4 u5 u6 u7 u8 L) (some (.int (m_B_isRow L x1))) (wB cI cZ cQ b0 b1 u0 F ++ wL cI cZ u0 u1 u2 u3 u4 u5 u6 u7 u8 L) := by
  generalize hres : (m_B_isRow L x1) = RES
  refine vz_C.of (by decide) (Nat.le_of_ble_eq_true rfl) ?_
  intro p e s m below meth c ls E hl hK hP hD hS
  obtain ⟨hx, hb, hr, hml, hown, hT, hlocks⟩ := E
  obtain ⟨Q, hQ⟩ : ∃ Q, Q = MQ below (vz_Q (dC, dI) classes (wB cI cZ cQ b0 b1 u0 F ++ wL cI cZ u0 u1 u2 u3 u4 u5 u6 u7 u8 L) (some (.int RES)) (wB cI cZ cQ b0 b1 u0 F ++ wL cI cZ u0 u1 u2 u3 u4 u5 u6 u7 u8 L)) ([.ref b0, .int x1] : List Value).toArray s 0 0 (vz_A (wB cI cZ cQ b0 b1 u0 F ++ wL cI cZ u0 u1 u2 u3 u4 u5 u6 u7 u8 L)) := ⟨_, rfl⟩
  rw [← hQ]
  have hl : lv_has ls 2 [(0, .ref b0), (1, .int x1)] := hl
  have T0 := ti_0
  have T1 := ti_1
  have Tm := ti_m1
  have T8 := ti_8
  have T39 := ti_39
  have T40 := ti_40
  have T4 := ti_4
  have T300 := ti_300
  have hS0 := hS
  refine lv_iload_n hx hb d_B_isRow_0 rfl (lv_at hl 1 rfl) ?_
  refine lv_iconst (v := 1) hx hb d_B_isRow_1 (by decide) ?_
  refine lv_icmp_lt (tgt := 20) hx hb d_B_isRow_2 (by decide) (fun c_2 => ?_) (fun c_2 => ?_)
  · have z_2 : x1.toInt < (1 : Int32).toInt := Int32.lt_iff_toInt_lt.mp c_2
    refine lv_iconst (v := 0) hx hb d_B_isRow_20 (by decide) ?_
    rw [m_B_isRow, if_pos c_2] at hres
    subst hres
    subst hQ
    exact vz_zret hx hb hr (by decide) hlocks d_B_isRow_21 hS rfl hP
  · have z_2 : ¬ x1.toInt < (1 : Int32).toInt := mt Int32.lt_iff_toInt_lt.mpr c_2
    refine lv_iload_n hx hb d_B_isRow_5 rfl (lv_at hl 1 rfl) ?_
    refine lv_aload_n hx hb d_B_isRow_6 rfl (lv_at hl 0 rfl) ?_
    refine va_get (D := (dC, dI)) (ci := 3) (v := .ref u0) (C := R_B) (T := F_B) (N := 2) hx hb hT i_B hown hK hP 0 rfl rfl 0 (by decide) (hT _ kw_128) (fun _ h9 => h9) rfl d_B_isRow_7 ?_
    refine va_get (D := (dC, dI)) (ci := 1) (v := .int L.2.2.2.2.2.2.2.2.1) (C := R_L) (T := F_L) (N := 10) hx hb hT i_L hown hK hP 2 rfl rfl 8 (by decide) (hT _ kw_45) (fun _ h9 => h9) rfl d_B_isRow_10 ?_
    refine lv_icmp_gt (tgt := 20) hx hb d_B_isRow_13 (by decide) (fun c_13 => ?_) (fun c_13 => ?_)
    · have z_13 : L.2.2.2.2.2.2.2.2.1.toInt < x1.toInt := Int32.lt_iff_toInt_lt.mp c_13
      refine lv_iconst (v := 0) hx hb d_B_isRow_20 (by decide) ?_
      rw [m_B_isRow, if_neg c_2, if_pos c_13] at hres
      subst hres
      subst hQ
      exact vz_zret hx hb hr (by decide) hlocks d_B_isRow_21 hS rfl hP
    · have z_13 : ¬ L.2.2.2.2.2.2.2.2.1.toInt < x1.toInt := mt Int32.lt_iff_toInt_lt.mpr c_13
      refine lv_iconst (v := 1) hx hb d_B_isRow_16 (by decide) ?_
      refine lv_goto (tgt := 21) hx hb d_B_isRow_17 (by decide) ?_
      rw [m_B_isRow, if_neg c_2, if_neg c_13] at hres
      subst hres
      subst hQ
      exact vz_zret hx hb hr (by decide) hlocks d_B_isRow_21 hS rfl hP

theorem hC_B_mayWrite_1 (cI cZ cQ : ClassId) (q0 q1 q2 q3 q4 q5 q6 q7 q8 q9 q10 : Nat) (S0 : (Nat → Option Nat)) (S1 : cL) : ([] : List Nat).map (fun i => (wB cI cZ cQ q0 q1 q2 S0 ++ wL cI cZ q2 q3 q4 q5 q6 q7 q8 q9 q10 S1 : va_W)[i]?) = (([] : va_W) : va_W).map some := rfl
theorem hF_B_isNode (cI cZ cQ : ClassId)   : (([] : va_W) : va_W).map Prod.fst = (([] : va_W) : va_W).map Prod.fst := rfl
theorem hU_B_mayWrite_1 (cI cZ cQ : ClassId) (q0 q1 q2 q3 q4 q5 q6 q7 q8 q9 q10 : Nat) (S0 : (Nat → Option Nat)) (S1 : cL)  : vz_put (wB cI cZ cQ q0 q1 q2 S0 ++ wL cI cZ q2 q3 q4 q5 q6 q7 q8 q9 q10 S1 : va_W) [] (([] : va_W) : va_W) = wB cI cZ cQ q0 q1 q2 S0 ++ wL cI cZ q2 q3 q4 q5 q6 q7 q8 q9 q10 S1 := (show vz_put ([(q0, .inr (3, [.ref q2, .ref q1])), (q1, .inl (cQ, 4, .inr (.inr (.inr (.inr S0))))), (q2, .inr (1, [.ref q3, .ref q4, .ref q5, .ref q6, .ref q7, .ref q8, .ref q9, .ref q10, .int S1.2.2.2.2.2.2.2.2.1, .int S1.2.2.2.2.2.2.2.2.2])), (q3, .inl (cI, 301, .inl S1.1)), (q4, .inl (cI, 301, .inl S1.2.1)), (q5, .inl (cI, 301, .inl S1.2.2.1)), (q6, .inl (cI, 301, .inl S1.2.2.2.1)), (q7, .inl (cI, 301, .inl S1.2.2.2.2.1)), (q8, .inl (cI, 301, .inl S1.2.2.2.2.2.1)), (q9, .inl (cI, 301, .inl S1.2.2.2.2.2.2.1)), (q10, .inl (cI, 300, .inl S1.2.2.2.2.2.2.2.1))] : va_W) [] ([] : va_W) = [(q0, .inr (3, [.ref q2, .ref q1])), (q1, .inl (cQ, 4, .inr (.inr (.inr (.inr S0))))), (q2, .inr (1, [.ref q3, .ref q4, .ref q5, .ref q6, .ref q7, .ref q8, .ref q9, .ref q10, .int S1.2.2.2.2.2.2.2.2.1, .int S1.2.2.2.2.2.2.2.2.2])), (q3, .inl (cI, 301, .inl S1.1)), (q4, .inl (cI, 301, .inl S1.2.1)), (q5, .inl (cI, 301, .inl S1.2.2.1)), (q6, .inl (cI, 301, .inl S1.2.2.2.1)), (q7, .inl (cI, 301, .inl S1.2.2.2.2.1)), (q8, .inl (cI, 301, .inl S1.2.2.2.2.2.1)), (q9, .inl (cI, 301, .inl S1.2.2.2.2.2.2.1)), (q10, .inl (cI, 300, .inl S1.2.2.2.2.2.2.2.1))] from rfl).trans rfl
def m_B_mayWrite (L : cL) (x1 : Int32) : Int32 := (if (m_B_isNode x1) = 0 then 0 else (if 300 ≤ L.2.2.2.2.2.2.2.2.1 then 0 else 1))
set_option maxHeartbeats 1000000 in
set_option maxRecDepth 100000 in
theorem c_B_mayWrite (l : Launch) (dC : Nat → ClassId) (dI : Nat → Nat → Nat) (cI cZ cQ : ClassId) (b0 : Nat) (b1 : Nat) (F : Nat → Option Nat) (u0 : Nat) (u1 : Nat) (u2 : Nat) (u3 : Nat) (u4 : Nat) (u5 : Nat) (u6 : Nat) (u7 : Nat) (u8 : Nat) (L : cL) (x1 : Int32)  : vz_C l (dC, dI) classes [(cI, .int), (cZ, .boolean), (cQ, .object "BinTrees$Person")] y_B_mayWrite (Cond.code y_B_mayWrite b_B_mayWrite 2 (some .boolean) :: vz_tbl) ({ frames := 1, cells := 0, slots := 0, locals := 20 }) [.ref b0, .int x1] (wB cI cZ cQ b0 b1 u0 F ++ wL cI cZ u0 u1 u2 u3 u4 u5 u6 u7 u8 L) (some (.int (m_B_mayWrite L x1))) (wB cI cZ cQ b0 b1 u0 F ++ wL cI cZ u0 u1 u2 u3 u4 u5 u6 u7 u8 L) := by
  generalize hres : (m_B_mayWrite L x1) = RES
  refine vz_C.of (by decide) (Nat.le_of_ble_eq_true rfl) ?_
  intro p e s m below meth c ls E hl hK hP hD hS
  obtain ⟨hx, hb, hr, hml, hown, hT, hlocks⟩ := E
  obtain ⟨Q, hQ⟩ : ∃ Q, Q = MQ below (vz_Q (dC, dI) classes (wB cI cZ cQ b0 b1 u0 F ++ wL cI cZ u0 u1 u2 u3 u4 u5 u6 u7 u8 L) (some (.int RES)) (wB cI cZ cQ b0 b1 u0 F ++ wL cI cZ u0 u1 u2 u3 u4 u5 u6 u7 u8 L)) ([.ref b0, .int x1] : List Value).toArray s 0 0 (vz_A (wB cI cZ cQ b0 b1 u0 F ++ wL cI cZ u0 u1 u2 u3 u4 u5 u6 u7 u8 L)) := ⟨_, rfl⟩
  rw [← hQ]
  have hl : lv_has ls 2 [(0, .ref b0), (1, .int x1)] := hl
  have T0 := ti_0
  have T1 := ti_1
  have Tm := ti_m1
  have T8 := ti_8
  have T39 := ti_39
  have T40 := ti_40
  have T4 := ti_4
  have T300 := ti_300
  have hS0 := hS
  refine lv_iload_n hx hb d_B_mayWrite_0 rfl (lv_at hl 1 rfl) ?_
  have hc := c_B_isNode l dC dI cI cZ cQ x1 
  generalize hg_1 : (m_B_isNode x1) = g_1 at hc
  refine vz_callS (As := [.int x1]) (rest := []) ⟨hx, hb, hml, hown, hT⟩ hc (vz_goodS kw_143 kw_144 kw_1 kw_145) hd_B_isNode ⟨⟨rfl, rfl⟩, Nat.le_of_ble_eq_true rfl, Nat.le_of_ble_eq_true rfl⟩ hK hP hD hS [] rfl (hC_B_mayWrite_1 cI cZ cQ b0 b1 u0 u1 u2 u3 u4 u5 u6 u7 u8 F L) (hF_B_isNode cI cZ cQ ) rfl hl.1 rfl (Nat.le_of_ble_eq_true rfl) ⟨Nat.zero_le _, Nat.zero_le _⟩ d_B_mayWrite_1 (fun H locs hP hD hS => ?_)
  have hP : va_P (dC, dI) classes (wB cI cZ cQ b0 b1 u0 F ++ wL cI cZ u0 u1 u2 u3 u4 u5 u6 u7 u8 L) H := vz_reP (hU_B_mayWrite_1 cI cZ cQ b0 b1 u0 u1 u2 u3 u4 u5 u6 u7 u8 F L ) hP
  have hD : va_D (vz_A (wB cI cZ cQ b0 b1 u0 F ++ wL cI cZ u0 u1 u2 u3 u4 u5 u6 u7 u8 L)) (wB cI cZ cQ b0 b1 u0 F ++ wL cI cZ u0 u1 u2 u3 u4 u5 u6 u7 u8 L) := vz_reD (hU_B_mayWrite_1 cI cZ cQ b0 b1 u0 u1 u2 u3 u4 u5 u6 u7 u8 F L ) hD
  refine W.eq (g2 := F0 m 4 ls [.int g_1]) rfl ?_
  refine lv_if_eq (tgt := 24) hx hb d_B_mayWrite_4 (by decide) (fun c_4 => ?_) (fun c_4 => ?_)
  · have z_4 : g_1.toInt = (0 : Int32).toInt := congrArg Int32.toInt c_4
    refine lv_iconst (v := 0) hx hb d_B_mayWrite_24 (by decide) ?_
    rw [m_B_mayWrite] at hres
    try rw [hg_1] at hres
    rw [if_pos c_4] at hres
    subst hres
    subst hQ
    exact vz_zret hx hb hr (by decide) hlocks d_B_mayWrite_25 hS rfl hP
  · have z_4 : ¬ g_1.toInt = (0 : Int32).toInt := mt Int32.toInt_inj.mp c_4
    refine lv_aload_n hx hb d_B_mayWrite_7 rfl (lv_at hl 0 rfl) ?_
    refine va_get (D := (dC, dI)) (ci := 3) (v := .ref u0) (C := R_B) (T := F_B) (N := 2) hx hb hT i_B hown hK hP 0 rfl rfl 0 (by decide) (hT _ kw_128) (fun _ h9 => h9) rfl d_B_mayWrite_8 ?_
    refine va_get (D := (dC, dI)) (ci := 1) (v := .int L.2.2.2.2.2.2.2.2.1) (C := R_L) (T := F_L) (N := 10) hx hb hT i_L hown hK hP 2 rfl rfl 8 (by decide) (hT _ kw_45) (fun _ h9 => h9) rfl d_B_mayWrite_11 ?_
    refine lv_sipush (v := 300) hx hb d_B_mayWrite_14 (by decide) ?_
    refine lv_icmp_ge (tgt := 24) hx hb d_B_mayWrite_17 (by decide) (fun c_17 => ?_) (fun c_17 => ?_)
    · have z_17 : (300 : Int32).toInt ≤ L.2.2.2.2.2.2.2.2.1.toInt := Int32.le_iff_toInt_le.mp c_17
      refine lv_iconst (v := 0) hx hb d_B_mayWrite_24 (by decide) ?_
      rw [m_B_mayWrite] at hres
      try rw [hg_1] at hres
      rw [if_neg c_4, if_pos c_17] at hres
      subst hres
      subst hQ
      exact vz_zret hx hb hr (by decide) hlocks d_B_mayWrite_25 hS rfl hP
    · have z_17 : ¬ (300 : Int32).toInt ≤ L.2.2.2.2.2.2.2.2.1.toInt := mt Int32.le_iff_toInt_le.mpr c_17
      refine lv_iconst (v := 1) hx hb d_B_mayWrite_20 (by decide) ?_
      refine lv_goto (tgt := 25) hx hb d_B_mayWrite_21 (by decide) ?_
      rw [m_B_mayWrite] at hres
      try rw [hg_1] at hres
      rw [if_neg c_4, if_neg c_17] at hres
      subst hres
      subst hQ
      exact vz_zret hx hb hr (by decide) hlocks d_B_mayWrite_25 hS rfl hP
