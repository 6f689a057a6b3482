theorem d_B_total_0 : decode b_B_total 0 = .ok (.iload_n 1, 1) := by decide +kernel
theorem d_B_total_1 : decode b_B_total 1 = .ok (.ifCond .ne 11, 3) := by decide +kernel
theorem d_B_total_4 : decode b_B_total 4 = .ok (.aload_n 0, 1) := by decide +kernel
theorem d_B_total_5 : decode b_B_total 5 = .ok (.getfield 10, 3) := by decide +kernel
theorem d_B_total_8 : decode b_B_total 8 = .ok (.getfield 64, 3) := by decide +kernel
theorem d_B_total_11 : decode b_B_total 11 = .ok (.ireturn, 1) := by decide +kernel
theorem d_B_total_12 : decode b_B_total 12 = .ok (.iload_n 1, 1) := by decide +kernel
theorem d_B_total_13 : decode b_B_total 13 = .ok (.iconst 1, 1) := by decide +kernel
theorem d_B_total_14 : decode b_B_total 14 = .ok (.if_icmp .ne 13, 3) := by decide +kernel
theorem d_B_total_17 : decode b_B_total 17 = .ok (.aload_n 0, 1) := by decide +kernel
theorem d_B_total_18 : decode b_B_total 18 = .ok (.getfield 10, 3) := by decide +kernel
theorem d_B_total_21 : decode b_B_total 21 = .ok (.getfield 27, 3) := by decide +kernel
theorem d_B_total_24 : decode b_B_total 24 = .ok (.iconst 1, 1) := by decide +kernel
theorem d_B_total_25 : decode b_B_total 25 = .ok (.iadd, 1) := by decide +kernel
theorem d_B_total_26 : decode b_B_total 26 = .ok (.ireturn, 1) := by decide +kernel
theorem d_B_total_27 : decode b_B_total 27 = .ok (.iload_n 1, 1) := by decide +kernel
theorem d_B_total_28 : decode b_B_total 28 = .ok (.bipush 10, 2) := by decide +kernel
theorem d_B_total_30 : decode b_B_total 30 = .ok (.if_icmp .lt 13, 3) := by decide +kernel
theorem d_B_total_33 : decode b_B_total 33 = .ok (.iload_n 1, 1) := by decide +kernel
theorem d_B_total_34 : decode b_B_total 34 = .ok (.bipush 10, 2) := by decide +kernel
theorem d_B_total_36 : decode b_B_total 36 = .ok (.irem, 1) := by decide +kernel
theorem d_B_total_37 : decode b_B_total 37 = .ok (.invokestatic 55, 3) := by decide +kernel
theorem d_B_total_40 : decode b_B_total 40 = .ok (.ifCond .ne 5, 3) := by decide +kernel
theorem d_B_total_43 : decode b_B_total 43 = .ok (.iconst (-1), 1) := by decide +kernel
theorem d_B_total_44 : decode b_B_total 44 = .ok (.ireturn, 1) := by decide +kernel
theorem d_B_total_45 : decode b_B_total 45 = .ok (.aload_n 0, 1) := by decide +kernel
theorem d_B_total_46 : decode b_B_total 46 = .ok (.getfield 18, 3) := by decide +kernel
theorem d_B_total_49 : decode b_B_total 49 = .ok (.iload_n 1, 1) := by decide +kernel
theorem d_B_total_50 : decode b_B_total 50 = .ok (.bipush 10, 2) := by decide +kernel
theorem d_B_total_52 : decode b_B_total 52 = .ok (.irem, 1) := by decide +kernel
theorem d_B_total_53 : decode b_B_total 53 = .ok (.aaload, 1) := by decide +kernel
theorem d_B_total_54 : decode b_B_total 54 = .ok (.astore_n 2, 1) := by decide +kernel
theorem d_B_total_55 : decode b_B_total 55 = .ok (.iload_n 1, 1) := by decide +kernel
theorem d_B_total_56 : decode b_B_total 56 = .ok (.bipush 10, 2) := by decide +kernel
theorem d_B_total_58 : decode b_B_total 58 = .ok (.idiv, 1) := by decide +kernel
theorem d_B_total_59 : decode b_B_total 59 = .ok (.tableswitch 58 1 4 #[29, 34, 39, 49], 29) := by decide +kernel
theorem d_B_total_88 : decode b_B_total 88 = .ok (.aload_n 2, 1) := by decide +kernel
theorem d_B_total_89 : decode b_B_total 89 = .ok (.getfield 133, 3) := by decide +kernel
theorem d_B_total_92 : decode b_B_total 92 = .ok (.ireturn, 1) := by decide +kernel
theorem d_B_total_93 : decode b_B_total 93 = .ok (.aload_n 2, 1) := by decide +kernel
theorem d_B_total_94 : decode b_B_total 94 = .ok (.getfield 31, 3) := by decide +kernel
theorem d_B_total_97 : decode b_B_total 97 = .ok (.ireturn, 1) := by decide +kernel
theorem d_B_total_98 : decode b_B_total 98 = .ok (.aload_n 2, 1) := by decide +kernel
theorem d_B_total_99 : decode b_B_total 99 = .ok (.getfield 79, 3) := by decide +kernel
theorem d_B_total_102 : decode b_B_total 102 = .ok (.getfield 136, 3) := by decide +kernel
theorem d_B_total_105 : decode b_B_total 105 = .ok (.iconst 1, 1) := by decide +kernel
theorem d_B_total_106 : decode b_B_total 106 = .ok (.iadd, 1) := by decide +kernel
theorem d_B_total_107 : decode b_B_total 107 = .ok (.ireturn, 1) := by decide +kernel
theorem d_B_total_108 : decode b_B_total 108 = .ok (.aload_n 2, 1) := by decide +kernel
theorem d_B_total_109 : decode b_B_total 109 = .ok (.getfield 79, 3) := by decide +kernel
theorem d_B_total_112 : decode b_B_total 112 = .ok (.iconst (-1), 1) := by decide +kernel
theorem d_B_total_113 : decode b_B_total 113 = .ok (.invokevirtual 99, 3) := by decide +kernel
theorem d_B_total_116 : decode b_B_total 116 = .ok (.ireturn, 1) := by decide +kernel
theorem d_B_total_117 : decode b_B_total 117 = .ok (.iconst (-1), 1) := by decide +kernel
theorem d_B_total_118 : decode b_B_total 118 = .ok (.ireturn, 1) := by decide +kernel
theorem hC_B_total_37 (cI cZ cQ : ClassId) (q0 q1 q2 q3 q4 q5 q6 q7 q8 q9 q10 q11 q12 q13 q14 q15 q16 q17 : Nat) (S0 : (Nat → Option Nat)) (S1 : cL) (S2 : cP) : ([] : List Nat).map (fun i => (wB cI cZ cQ q0 q1 q2 S0 ++ wL cI cZ q2 q3 q4 q5 q6 q7 q8 q9 q10 S1 ++ wP cI cZ q11 q12 q13 q14 q15 q16 q17 S2 : va_W)[i]?) = (([] : va_W) : va_W).map some := rfl
theorem hU_B_total_37 (cI cZ cQ : ClassId) (q0 q1 q2 q3 q4 q5 q6 q7 q8 q9 q10 q11 q12 q13 q14 q15 q16 q17 : Nat) (S0 : (Nat → Option Nat)) (S1 : cL) (S2 : cP)  : vz_put (wB cI cZ cQ q0 q1 q2 S0 ++ wL cI cZ q2 q3 q4 q5 q6 q7 q8 q9 q10 S1 ++ wP cI cZ q11 q12 q13 q14 q15 q16 q17 S2 : va_W) [] (([] : va_W) : va_W) = wB cI cZ cQ q0 q1 q2 S0 ++ wL cI cZ q2 q3 q4 q5 q6 q7 q8 q9 q10 S1 ++ wP cI cZ q11 q12 q13 q14 q15 q16 q17 S2 := (show vz_put ([(q0, .inr (3, [.ref q2, .ref q1])), (q1, .inl (cQ, 4, .inr (.inr (.inr (.inr S0))))), (q2, .inr (1, [.ref q3, .ref q4, .ref q5, .ref q6, .ref q7, .ref q8, .ref q9, .ref q10, .int S1.2.2.2.2.2.2.2.2.1, .int S1.2.2.2.2.2.2.2.2.2])), (q3, .inl (cI, 301, .inl S1.1)), (q4, .inl (cI, 301, .inl S1.2.1)), (q5, .inl (cI, 301, .inl S1.2.2.1)), (q6, .inl (cI, 301, .inl S1.2.2.2.1)), (q7, .inl (cI, 301, .inl S1.2.2.2.2.1)), (q8, .inl (cI, 301, .inl S1.2.2.2.2.2.1)), (q9, .inl (cI, 301, .inl S1.2.2.2.2.2.2.1)), (q10, .inl (cI, 300, .inl S1.2.2.2.2.2.2.2.1)), (q11, .inr (2, [.ref q12, .ref q13, .int S2.2.2.1, .int S2.2.2.2.1, .int S2.2.2.2.2])), (q12, .inl (cI, 301, .inl S2.1)), (q13, .inr (0, [.ref q14, .ref q15, .ref q16, .ref q17, .int S2.2.1.2.2.2.2])), (q14, .inl (cZ, 40, .inl S2.2.1.1)), (q15, .inl (cI, 40, .inl S2.2.1.2.1)), (q16, .inl (cI, 40, .inl S2.2.1.2.2.1)), (q17, .inl (cI, 40, .inl S2.2.1.2.2.2.1))] : va_W) [] ([] : va_W) = [(q0, .inr (3, [.ref q2, .ref q1])), (q1, .inl (cQ, 4, .inr (.inr (.inr (.inr S0))))), (q2, .inr (1, [.ref q3, .ref q4, .ref q5, .ref q6, .ref q7, .ref q8, .ref q9, .ref q10, .int S1.2.2.2.2.2.2.2.2.1, .int S1.2.2.2.2.2.2.2.2.2])), (q3, .inl (cI, 301, .inl S1.1)), (q4, .inl (cI, 301, .inl S1.2.1)), (q5, .inl (cI, 301, .inl S1.2.2.1)), (q6, .inl (cI, 301, .inl S1.2.2.2.1)), (q7, .inl (cI, 301, .inl S1.2.2.2.2.1)), (q8, .inl (cI, 301, .inl S1.2.2.2.2.2.1)), (q9, .inl (cI, 301, .inl S1.2.2.2.2.2.2.1)), (q10, .inl (cI, 300, .inl S1.2.2.2.2.2.2.2.1)), (q11, .inr (2, [.ref q12, .ref q13, .int S2.2.2.1, .int S2.2.2.2.1, .int S2.2.2.2.2])), (q12, .inl (cI, 301, .inl S2.1)), (q13, .inr (0, [.ref q14, .ref q15, .ref q16, .ref q17, .int S2.2.1.2.2.2.2])), (q14, .inl (cZ, 40, .inl S2.2.1.1)), (q15, .inl (cI, 40, .inl S2.2.1.2.1)), (q16, .inl (cI, 40, .inl S2.2.1.2.2.1)), (q17, .inl (cI, 40, .inl S2.2.1.2.2.2.1))] from rfl).trans rfl
theorem hC_B_total_113 (cI cZ cQ : ClassId) (q0 q1 q2 q3 q4 q5 q6 q7 q8 q9 q10 q11 q12 q13 q14 q15 q16 q17 : Nat) (S0 : (Nat → Option Nat)) (S1 : cL) (S2 : cP) : ([13, 14, 15, 16, 17] : List Nat).map (fun i => (wB cI cZ cQ q0 q1 q2 S0 ++ wL cI cZ q2 q3 q4 q5 q6 q7 q8 q9 q10 S1 ++ wP cI cZ q11 q12 q13 q14 q15 q16 q17 S2 : va_W)[i]?) = (wT cI cZ q13 q14 q15 q16 q17 S2.2.1 : va_W).map some := rfl
theorem hU_B_total_113 (cI cZ cQ : ClassId) (q0 q1 q2 q3 q4 q5 q6 q7 q8 q9 q10 q11 q12 q13 q14 q15 q16 q17 : Nat) (S0 : (Nat → Option Nat)) (S1 : cL) (S2 : cP)  : vz_put (wB cI cZ cQ q0 q1 q2 S0 ++ wL cI cZ q2 q3 q4 q5 q6 q7 q8 q9 q10 S1 ++ wP cI cZ q11 q12 q13 q14 q15 q16 q17 S2 : va_W) [13, 14, 15, 16, 17] (wT cI cZ q13 q14 q15 q16 q17 S2.2.1 : va_W) = wB cI cZ cQ q0 q1 q2 S0 ++ wL cI cZ q2 q3 q4 q5 q6 q7 q8 q9 q10 S1 ++ wP cI cZ q11 q12 q13 q14 q15 q16 q17 S2 := (show vz_put ([(q0, .inr (3, [.ref q2, .ref q1])), (q1, .inl (cQ, 4, .inr (.inr (.inr (.inr S0))))), (q2, .inr (1, [.ref q3, .ref q4, .ref q5, .ref q6, .ref q7, .ref q8, .ref q9, .ref q10, .int S1.2.2.2.2.2.2.2.2.1, .int S1.2.2.2.2.2.2.2.2.2])), (q3, .inl (cI, 301, .inl S1.1)), (q4, .inl (cI, 301, .inl S1.2.1)), (q5, .inl (cI, 301, .inl S1.2.2.1)), (q6, .inl (cI, 301, .inl S1.2.2.2.1)), (q7, .inl (cI, 301, .inl S1.2.2.2.2.1)), (q8, .inl (cI, 301, .inl S1.2.2.2.2.2.1)), (q9, .inl (cI, 301, .inl S1.2.2.2.2.2.2.1)), (q10, .inl (cI, 300, .inl S1.2.2.2.2.2.2.2.1)), (q11, .inr (2, [.ref q12, .ref q13, .int S2.2.2.1, .int S2.2.2.2.1, .int S2.2.2.2.2])), (q12, .inl (cI, 301, .inl S2.1)), (q13, .inr (0, [.ref q14, .ref q15, .ref q16, .ref q17, .int S2.2.1.2.2.2.2])), (q14, .inl (cZ, 40, .inl S2.2.1.1)), (q15, .inl (cI, 40, .inl S2.2.1.2.1)), (q16, .inl (cI, 40, .inl S2.2.1.2.2.1)), (q17, .inl (cI, 40, .inl S2.2.1.2.2.2.1))] : va_W) [13, 14, 15, 16, 17] ([(q13, .inr (0, [.ref q14, .ref q15, .ref q16, .ref q17, .int S2.2.1.2.2.2.2])), (q14, .inl (cZ, 40, .inl S2.2.1.1)), (q15, .inl (cI, 40, .inl S2.2.1.2.1)), (q16, .inl (cI, 40, .inl S2.2.1.2.2.1)), (q17, .inl (cI, 40, .inl S2.2.1.2.2.2.1))] : va_W) = [(q0, .inr (3, [.ref q2, .ref q1])), (q1, .inl (cQ, 4, .inr (.inr (.inr (.inr S0))))), (q2, .inr (1, [.ref q3, .ref q4, .ref q5, .ref q6, .ref q7, .ref q8, .ref q9, .ref q10, .int S1.2.2.2.2.2.2.2.2.1, .int S1.2.2.2.2.2.2.2.2.2])), (q3, .inl (cI, 301, .inl S1.1)), (q4, .inl (cI, 301, .inl S1.2.1)), (q5, .inl (cI, 301, .inl S1.2.2.1)), (q6, .inl (cI, 301, .inl S1.2.2.2.1)), (q7, .inl (cI, 301, .inl S1.2.2.2.2.1)), (q8, .inl (cI, 301, .inl S1.2.2.2.2.2.1)), (q9, .inl (cI, 301, .inl S1.2.2.2.2.2.2.1)), (q10, .inl (cI, 300, .inl S1.2.2.2.2.2.2.2.1)), (q11, .inr (2, [.ref q12, .ref q13, .int S2.2.2.1, .int S2.2.2.2.1, .int S2.2.2.2.2])), (q12, .inl (cI, 301, .inl S2.1)), (q13, .inr (0, [.ref q14, .ref q15, .ref q16, .ref q17, .int S2.2.1.2.2.2.2])), (q14, .inl (cZ, 40, .inl S2.2.1.1)), (q15, .inl (cI, 40, .inl S2.2.1.2.1)), (q16, .inl (cI, 40, .inl S2.2.1.2.2.1)), (q17, .inl (cI, 40, .inl S2.2.1.2.2.2.1))] from rfl).trans rfl
def m_B_total (L : cL) (P : cP) (x1 : Int32) : Int32 := (if x1 = 0 then L.2.2.2.2.2.2.2.2.1 else (if x1 = 1 then L.2.2.2.2.2.2.2.2.2 + 1 else (if x1 < 10 then -1 else (if (m_B_isNode (x1 - x1 / 10 * 10)) = 0 then -1 else (if (x1 / 10) = 1 then P.2.2.1 else (if (x1 / 10) = 2 then P.2.2.2.1 else (if (x1 / 10) = 3 then P.2.1.2.2.2.2 + 1 else (if (x1 / 10) = 4 then (m_T_childCount P.2.1 (-1)) else -1))))))))
set_option maxHeartbeats 1000000 in
set_option maxRecDepth 100000 in
theorem c_B_total (l : Launch) (dC : Nat → ClassId) (dI : Nat → Nat → Nat) (cI cZ cQ : ClassId) (b0 : Nat) (b1 : Nat) (F : Nat → Option Nat) (u0 : Nat) (u1 : Nat) (u2 : Nat) (u3 : Nat) (u4 : Nat) (u5 : Nat) (u6 : Nat) (u7 : Nat) (u8 : Nat) (L : cL) (p0 : Nat) (p1 : Nat) (h0 : Nat) (a1 : Nat) (a2 : Nat) (a3 : Nat) (a4 : Nat) (P : cP) (x1 : Int32) (hF : 0 ≤ (x1 - x1 / 10 * 10).toInt → (x1 - x1 / 10 * 10).toInt < 4 → F (x1 - x1 / 10 * 10).toNatClampNeg = some p0) (hL : okL L) (hok : okT P.2.1) : vz_C l (dC, dI) classes [(cI, .int), (cZ, .boolean), (cQ, .object "BinTrees$Person")] y_B_total (Cond.code y_B_total b_B_total 3 (some .int) :: vz_tbl) ({ frames := 1, cells := 0, slots := 0, locals := 23 }) [.ref b0, .int x1] (wB cI cZ cQ b0 b1 u0 F ++ wL cI cZ u0 u1 u2 u3 u4 u5 u6 u7 u8 L ++ wP cI cZ p0 p1 h0 a1 a2 a3 a4 P) (some (.int (m_B_total L P x1))) (wB cI cZ cQ b0 b1 u0 F ++ wL cI cZ u0 u1 u2 u3 u4 u5 u6 u7 u8 L ++ wP cI cZ p0 p1 h0 a1 a2 a3 a4 P) := by
  generalize hres : (m_B_total L P x1) = RES
  refine vz_C.of (by decide) (Nat.le_of_ble_eq_true rfl) ?_
  intro p e s m below meth c ls E hl hK hP hD hS
  obtain ⟨hx, hb, hr, hml, hown, hT, hlocks⟩ := E
  obtain ⟨Q, hQ⟩ : ∃ Q, Q = MQ below (vz_Q (dC, dI) classes (wB cI cZ cQ b0 b1 u0 F ++ wL cI cZ u0 u1 u2 u3 u4 u5 u6 u7 u8 L ++ wP cI cZ p0 p1 h0 a1 a2 a3 a4 P) (some (.int RES)) (wB cI cZ cQ b0 b1 u0 F ++ wL cI cZ u0 u1 u2 u3 u4 u5 u6 u7 u8 L ++ wP cI cZ p0 p1 h0 a1 a2 a3 a4 P)) ([.ref b0, .int x1] : List Value).toArray s 0 0 (vz_A (wB cI cZ cQ b0 b1 u0 F ++ wL cI cZ u0 u1 u2 u3 u4 u5 u6 u7 u8 L ++ wP cI cZ p0 p1 h0 a1 a2 a3 a4 P)) := ⟨_, rfl⟩
  rw [← hQ]
  have hl : lv_has ls 3 [(0, .ref b0), (1, .int x1)] := hl
  have T0 := ti_0
  have T1 := ti_1
  have Tm := ti_m1
  have T8 := ti_8
  have T39 := ti_39
  have T40 := ti_40
  have T4 := ti_4
  have T300 := ti_300
  have hS0 := hS
  refine lv_iload_n hx hb d_B_total_0 rfl (lv_at hl 1 rfl) ?_
  refine lv_if_ne (tgt := 12) hx hb d_B_total_1 (by decide) (fun c_1 => ?_) (fun c_1 => ?_)
  · have z_1 : ¬ x1.toInt = (0 : Int32).toInt := mt Int32.toInt_inj.mp c_1
    refine lv_iload_n hx hb d_B_total_12 rfl (lv_at hl 1 rfl) ?_
    refine lv_iconst (v := 1) hx hb d_B_total_13 (by decide) ?_
    refine lv_icmp_ne (tgt := 27) hx hb d_B_total_14 (by decide) (fun c_14 => ?_) (fun c_14 => ?_)
    · have z_14 : ¬ x1.toInt = (1 : Int32).toInt := mt Int32.toInt_inj.mp c_14
      refine lv_iload_n hx hb d_B_total_27 rfl (lv_at hl 1 rfl) ?_
      refine lv_bipush (v := 10) hx hb d_B_total_28 (by decide) ?_
      refine lv_icmp_lt (tgt := 43) hx hb d_B_total_30 (by decide) (fun c_30 => ?_) (fun c_30 => ?_)
      · have z_30 : x1.toInt < (10 : Int32).toInt := Int32.lt_iff_toInt_lt.mp c_30
        refine lv_iconst (v := -1) hx hb d_B_total_43 (by decide) ?_
        rw [m_B_total, if_neg c_1, if_neg c_14, if_pos c_30] at hres
        subst hres
        subst hQ
        exact vz_iret hx hb hr hlocks d_B_total_44 hS rfl hP
      · have z_30 : ¬ x1.toInt < (10 : Int32).toInt := mt Int32.lt_iff_toInt_lt.mpr c_30
        refine lv_iload_n hx hb d_B_total_33 rfl (lv_at hl 1 rfl) ?_
        refine lv_bipush (v := 10) hx hb d_B_total_34 (by decide) ?_
        refine lv_irem hx hb d_B_total_36 (by decide) ?_
        have hc := c_B_isNode l dC dI cI cZ cQ (x1 - x1 / 10 * 10) 
        generalize hg_37 : (m_B_isNode (x1 - x1 / 10 * 10)) = g_37 at hc
        refine vz_callS (As := [.int (x1 - x1 / 10 * 10)]) (rest := []) ⟨hx, hb, hml, hown, hT⟩ hc (vz_goodS kw_143 kw_144 kw_1 kw_145) hd_B_isNode ⟨⟨rfl, rfl⟩, Nat.le_of_ble_eq_true rfl, Nat.le_of_ble_eq_true rfl⟩ hK hP hD hS [] rfl (hC_B_total_37 cI cZ cQ b0 b1 u0 u1 u2 u3 u4 u5 u6 u7 u8 p0 p1 h0 a1 a2 a3 a4 F L P) (hF_B_isNode cI cZ cQ ) rfl hl.1 rfl (Nat.le_of_ble_eq_true rfl) ⟨Nat.zero_le _, Nat.zero_le _⟩ d_B_total_37 (fun H locs hP hD hS => ?_)
        have hP : va_P (dC, dI) classes (wB cI cZ cQ b0 b1 u0 F ++ wL cI cZ u0 u1 u2 u3 u4 u5 u6 u7 u8 L ++ wP cI cZ p0 p1 h0 a1 a2 a3 a4 P) H := vz_reP (hU_B_total_37 cI cZ cQ b0 b1 u0 u1 u2 u3 u4 u5 u6 u7 u8 p0 p1 h0 a1 a2 a3 a4 F L P ) hP
        have hD : va_D (vz_A (wB cI cZ cQ b0 b1 u0 F ++ wL cI cZ u0 u1 u2 u3 u4 u5 u6 u7 u8 L ++ wP cI cZ p0 p1 h0 a1 a2 a3 a4 P)) (wB cI cZ cQ b0 b1 u0 F ++ wL cI cZ u0 u1 u2 u3 u4 u5 u6 u7 u8 L ++ wP cI cZ p0 p1 h0 a1 a2 a3 a4 P) := vz_reD (hU_B_total_37 cI cZ cQ b0 b1 u0 u1 u2 u3 u4 u5 u6 u7 u8 p0 p1 h0 a1 a2 a3 a4 F L P ) hD
        refine W.eq (g2 := F0 m 40 ls [.int g_37]) rfl ?_
        refine lv_if_ne (tgt := 45) hx hb d_B_total_40 (by decide) (fun c_40 => ?_) (fun c_40 => ?_)
        · have z_40 : ¬ g_37.toInt = (0 : Int32).toInt := mt Int32.toInt_inj.mp c_40
          refine lv_aload_n hx hb d_B_total_45 rfl (lv_at hl 0 rfl) ?_
          refine va_get (D := (dC, dI)) (ci := 3) (v := .ref b1) (C := R_B) (T := F_B) (N := 2) hx hb hT i_B hown hK hP 0 rfl rfl 1 (by decide) (hT _ kw_129) (fun _ h9 => h9) rfl d_B_total_46 ?_
          refine lv_iload_n hx hb d_B_total_49 rfl (lv_at hl 1 rfl) ?_
          refine lv_bipush (v := 10) hx hb d_B_total_50 (by decide) ?_
          refine lv_irem hx hb d_B_total_52 (by decide) ?_
          refine va_aldq hx hb hK hP 1 2 rfl rfl (by have hn := isn_t (x0 := x1 - x1 / 10 * 10) (by rw [hg_37]; assumption); exact ti_vp (by omega) (by omega)) d_B_total_53 ?_
          rw [show va_rf (F (x1 - x1 / 10 * 10).toNatClampNeg) = .ref p0 from by have hn := isn_t (x0 := x1 - x1 / 10 * 10) (by rw [hg_37]; assumption); rw [hF hn.1 hn.2]; rfl]
          refine lv_astore_n (lv' := [(2, .ref p0), (0, .ref b0), (1, .int x1)]) hx hb d_B_total_54 rfl hl (by decide) rfl (fun ls hl => ?_)
          refine lv_iload_n hx hb d_B_total_55 rfl (lv_at hl 2 rfl) ?_
          refine lv_bipush (v := 10) hx hb d_B_total_56 (by decide) ?_
          refine lv_idiv hx hb d_B_total_58 (by decide) ?_
          by_cases c_59_1 : (x1 / 10) = 1
          · refine lv_tableIn (off := 29) (tgt := 88) hx hb d_B_total_59 (by rw [c_59_1]; decide) (by rw [c_59_1]; decide) (by rw [c_59_1]; decide) (by decide) ?_
            refine lv_aload_n hx hb d_B_total_88 rfl (lv_at hl 0 rfl) ?_
            refine va_get (D := (dC, dI)) (ci := 2) (v := .int P.2.2.1) (C := R_P) (T := F_P) (N := 5) hx hb hT i_P hown hK hP 11 rfl rfl 2 (by decide) (hT _ kw_112) (fun _ h9 => h9) rfl d_B_total_89 ?_
            rw [m_B_total, if_neg c_1, if_neg c_14, if_neg c_30] at hres
            try rw [hg_37] at hres
            rw [if_neg c_40, if_pos c_59_1] at hres
            subst hres
            subst hQ
            exact vz_iret hx hb hr hlocks d_B_total_92 hS rfl hP
          · by_cases c_59_2 : (x1 / 10) = 2
            · refine lv_tableIn (off := 34) (tgt := 93) hx hb d_B_total_59 (by rw [c_59_2]; decide) (by rw [c_59_2]; decide) (by rw [c_59_2]; decide) (by decide) ?_
              refine lv_aload_n hx hb d_B_total_93 rfl (lv_at hl 0 rfl) ?_
              refine va_get (D := (dC, dI)) (ci := 2) (v := .int P.2.2.2.1) (C := R_P) (T := F_P) (N := 5) hx hb hT i_P hown hK hP 11 rfl rfl 3 (by decide) (hT _ kw_113) (fun _ h9 => h9) rfl d_B_total_94 ?_
              rw [m_B_total, if_neg c_1, if_neg c_14, if_neg c_30] at hres
              try rw [hg_37] at hres
              rw [if_neg c_40, if_neg c_59_1, if_pos c_59_2] at hres
              subst hres
              subst hQ
              exact vz_iret hx hb hr hlocks d_B_total_97 hS rfl hP
            · by_cases c_59_3 : (x1 / 10) = 3
              · refine lv_tableIn (off := 39) (tgt := 98) hx hb d_B_total_59 (by rw [c_59_3]; decide) (by rw [c_59_3]; decide) (by rw [c_59_3]; decide) (by decide) ?_
                refine lv_aload_n hx hb d_B_total_98 rfl (lv_at hl 0 rfl) ?_
                refine va_get (D := (dC, dI)) (ci := 2) (v := .ref h0) (C := R_P) (T := F_P) (N := 5) hx hb hT i_P hown hK hP 11 rfl rfl 1 (by decide) (hT _ kw_110) (fun _ h9 => h9) rfl d_B_total_99 ?_
                refine va_get (D := (dC, dI)) (ci := 0) (v := .int P.2.1.2.2.2.2) (C := R_T) (T := F_T) (N := 5) hx hb hT i_T hown hK hP 13 rfl rfl 4 (by decide) (hT _ kw_94) (fun _ h9 => h9) rfl d_B_total_102 ?_
                refine lv_iconst (v := 1) hx hb d_B_total_105 (by decide) ?_
                refine lv_iadd hx hb d_B_total_106 ?_
                rw [m_B_total, if_neg c_1, if_neg c_14, if_neg c_30] at hres
                try rw [hg_37] at hres
                rw [if_neg c_40, if_neg c_59_1, if_neg c_59_2, if_pos c_59_3] at hres
                subst hres
                subst hQ
                exact vz_iret hx hb hr hlocks d_B_total_107 hS rfl hP
              · by_cases c_59_4 : (x1 / 10) = 4
                · refine lv_tableIn (off := 49) (tgt := 108) hx hb d_B_total_59 (by rw [c_59_4]; decide) (by rw [c_59_4]; decide) (by rw [c_59_4]; decide) (by decide) ?_
                  refine lv_aload_n hx hb d_B_total_108 rfl (lv_at hl 0 rfl) ?_
                  refine va_get (D := (dC, dI)) (ci := 2) (v := .ref h0) (C := R_P) (T := F_P) (N := 5) hx hb hT i_P hown hK hP 11 rfl rfl 1 (by decide) (hT _ kw_110) (fun _ h9 => h9) rfl d_B_total_109 ?_
                  refine lv_iconst (v := -1) hx hb d_B_total_112 (by decide) ?_
                  have hc := c_T_childCount l dC dI cI cZ cQ h0 a1 a2 a3 a4 P.2.1 (-1) (ok_le hok) (hok.2.1)
                  generalize hg_113 : (m_T_childCount P.2.1 (-1)) = g_113 at hc
                  refine vz_callV (As := [.int (-1)]) (rest := []) ⟨hx, hb, hml, hown, hT⟩ hc (vz_goodV kw_273 kw_274 kw_275 kw_4 kw_276) ⟨rfl, hd_T_childCount⟩ ⟨⟨rfl, rfl⟩, Nat.le_of_ble_eq_true rfl, Nat.le_of_ble_eq_true rfl⟩ hK hP hD hS [13, 14, 15, 16, 17] rfl (hC_B_total_113 cI cZ cQ b0 b1 u0 u1 u2 u3 u4 u5 u6 u7 u8 p0 p1 h0 a1 a2 a3 a4 F L P) (hF_T_childCount cI cZ cQ _ _) 0 0 rfl rfl rfl rfl hl.1 rfl (Nat.le_of_ble_eq_true rfl) ⟨Nat.zero_le _, Nat.zero_le _⟩ d_B_total_113 (fun H locs hP hD hS => ?_)
                  have hP : va_P (dC, dI) classes (wB cI cZ cQ b0 b1 u0 F ++ wL cI cZ u0 u1 u2 u3 u4 u5 u6 u7 u8 L ++ wP cI cZ p0 p1 h0 a1 a2 a3 a4 P) H := vz_reP (hU_B_total_113 cI cZ cQ b0 b1 u0 u1 u2 u3 u4 u5 u6 u7 u8 p0 p1 h0 a1 a2 a3 a4 F L P ) hP
                  have hD : va_D (vz_A (wB cI cZ cQ b0 b1 u0 F ++ wL cI cZ u0 u1 u2 u3 u4 u5 u6 u7 u8 L ++ wP cI cZ p0 p1 h0 a1 a2 a3 a4 P)) (wB cI cZ cQ b0 b1 u0 F ++ wL cI cZ u0 u1 u2 u3 u4 u5 u6 u7 u8 L ++ wP cI cZ p0 p1 h0 a1 a2 a3 a4 P) := vz_reD (hU_B_total_113 cI cZ cQ b0 b1 u0 u1 u2 u3 u4 u5 u6 u7 u8 p0 p1 h0 a1 a2 a3 a4 F L P ) hD
                  refine W.eq (g2 := F0 m 116 ls [.int g_113]) rfl ?_
                  rw [m_B_total, if_neg c_1, if_neg c_14, if_neg c_30] at hres
                  try rw [hg_37] at hres
                  rw [if_neg c_40, if_neg c_59_1, if_neg c_59_2, if_neg c_59_3, if_pos c_59_4] at hres
                  try rw [hg_113] at hres
                  subst hres
                  subst hQ
                  exact vz_iret hx hb hr hlocks d_B_total_116 hS rfl hP
                · refine lv_tableOut (tgt := 117) hx hb d_B_total_59 (by have h0 := lv_neT c_59_1 (by decide : (1 : Int32).toInt = 1); have h1 := lv_neT c_59_2 (by decide : (2 : Int32).toInt = 2); have h2 := lv_neT c_59_3 (by decide : (3 : Int32).toInt = 3); have h3 := lv_neT c_59_4 (by decide : (4 : Int32).toInt = 4); omega) (by decide) ?_
                  refine lv_iconst (v := -1) hx hb d_B_total_117 (by decide) ?_
                  rw [m_B_total, if_neg c_1, if_neg c_14, if_neg c_30] at hres
                  try rw [hg_37] at hres
                  rw [if_neg c_40, if_neg c_59_1, if_neg c_59_2, if_neg c_59_3, if_neg c_59_4] at hres
                  subst hres
                  subst hQ
                  exact vz_iret hx hb hr hlocks d_B_total_118 hS rfl hP
        · have z_40 : g_37.toInt = (0 : Int32).toInt := congrArg Int32.toInt c_40
          refine lv_iconst (v := -1) hx hb d_B_total_43 (by decide) ?_
          rw [m_B_total, if_neg c_1, if_neg c_14, if_neg c_30] at hres
          try rw [hg_37] at hres
          rw [if_pos c_40] at hres
          subst hres
          subst hQ
          exact vz_iret hx hb hr hlocks d_B_total_44 hS rfl hP
    · have z_14 : x1.toInt = (1 : Int32).toInt := congrArg Int32.toInt c_14
      refine lv_aload_n hx hb d_B_total_17 rfl (lv_at hl 0 rfl) ?_
      refine va_get (D := (dC, dI)) (ci := 3) (v := .ref u0) (C := R_B) (T := F_B) (N := 2) hx hb hT i_B hown hK hP 0 rfl rfl 0 (by decide) (hT _ kw_128) (fun _ h9 => h9) rfl d_B_total_18 ?_
      refine va_get (D := (dC, dI)) (ci := 1) (v := .int L.2.2.2.2.2.2.2.2.2) (C := R_L) (T := F_L) (N := 10) hx hb hT i_L hown hK hP 2 rfl rfl 9 (by decide) (hT _ kw_46) (fun _ h9 => h9) rfl d_B_total_21 ?_
      refine lv_iconst (v := 1) hx hb d_B_total_24 (by decide) ?_
      refine lv_iadd hx hb d_B_total_25 ?_
      rw [m_B_total, if_neg c_1, if_pos c_14] at hres
      subst hres
      subst hQ
      exact vz_iret hx hb hr hlocks d_B_total_26 hS rfl hP
  · have z_1 : x1.toInt = (0 : Int32).toInt := congrArg Int32.toInt c_1
    refine lv_aload_n hx hb d_B_total_4 rfl (lv_at hl 0 rfl) ?_
    refine va_get (D := (dC, dI)) (ci := 3) (v := .ref u0) (C := R_B) (T := F_B) (N := 2) hx hb hT i_B hown hK hP 0 rfl rfl 0 (by decide) (hT _ kw_128) (fun _ h9 => h9) rfl d_B_total_5 ?_
    refine va_get (D := (dC, dI)) (ci := 1) (v := .int L.2.2.2.2.2.2.2.2.1) (C := R_L) (T := F_L) (N := 10) hx hb hT i_L hown hK hP 2 rfl rfl 8 (by decide) (hT _ kw_45) (fun _ h9 => h9) rfl d_B_total_8 ?_
    rw [m_B_total, if_pos c_1] at hres
    subst hres
    subst hQ
    exact vz_iret hx hb hr hlocks d_B_total_11 hS rfl hP
