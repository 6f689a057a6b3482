theorem d_B_child_0 : decode b_B_child 0 = .ok (.iload_n 1, 1) := by decide +kernel
theorem d_B_child_1 : decode b_B_child 1 = .ok (.invokestatic 55, 3) := by decide +kernel
theorem d_B_child_4 : decode b_B_child 4 = .ok (.ifCond .ne 5, 3) := by decide +kernel
theorem d_B_child_7 : decode b_B_child 7 = .ok (.iconst (-1), 1) := by decide +kernel
theorem d_B_child_8 : decode b_B_child 8 = .ok (.ireturn, 1) := by decide +kernel
theorem d_B_child_9 : decode b_B_child 9 = .ok (.aload_n 0, 1) := by decide +kernel
theorem d_B_child_10 : decode b_B_child 10 = .ok (.getfield 18, 3) := by decide +kernel
theorem d_B_child_13 : decode b_B_child 13 = .ok (.iload_n 1, 1) := by decide +kernel
theorem d_B_child_14 : decode b_B_child 14 = .ok (.aaload, 1) := by decide +kernel
theorem d_B_child_15 : decode b_B_child 15 = .ok (.getfield 79, 3) := by decide +kernel
theorem d_B_child_18 : decode b_B_child 18 = .ok (.astore 4, 2) := by decide +kernel
theorem d_B_child_20 : decode b_B_child 20 = .ok (.iload_n 2, 1) := by decide +kernel
theorem d_B_child_21 : decode b_B_child 21 = .ok (.iconst (-1), 1) := by decide +kernel
theorem d_B_child_22 : decode b_B_child 22 = .ok (.if_icmp .eq 23, 3) := by decide +kernel
theorem d_B_child_25 : decode b_B_child 25 = .ok (.aload_n 0, 1) := by decide +kernel
theorem d_B_child_26 : decode b_B_child 26 = .ok (.iload_n 2, 1) := by decide +kernel
theorem d_B_child_27 : decode b_B_child 27 = .ok (.invokevirtual 45, 3) := by decide +kernel
theorem d_B_child_30 : decode b_B_child 30 = .ok (.ifCond .eq 13, 3) := by decide +kernel
theorem d_B_child_33 : decode b_B_child 33 = .ok (.aload 4, 2) := by decide +kernel
theorem d_B_child_35 : decode b_B_child 35 = .ok (.getfield 83, 3) := by decide +kernel
theorem d_B_child_38 : decode b_B_child 38 = .ok (.iload_n 2, 1) := by decide +kernel
theorem d_B_child_39 : decode b_B_child 39 = .ok (.baload, 1) := by decide +kernel
theorem d_B_child_40 : decode b_B_child 40 = .ok (.ifCond .ne 5, 3) := by decide +kernel
theorem d_B_child_43 : decode b_B_child 43 = .ok (.iconst (-1), 1) := by decide +kernel
theorem d_B_child_44 : decode b_B_child 44 = .ok (.ireturn, 1) := by decide +kernel
theorem d_B_child_45 : decode b_B_child 45 = .ok (.aload 4, 2) := by decide +kernel
theorem d_B_child_47 : decode b_B_child 47 = .ok (.iload_n 2, 1) := by decide +kernel
theorem d_B_child_48 : decode b_B_child 48 = .ok (.iload_n 3, 1) := by decide +kernel
theorem d_B_child_49 : decode b_B_child 49 = .ok (.invokevirtual 108, 3) := by decide +kernel
theorem d_B_child_52 : decode b_B_child 52 = .ok (.ireturn, 1) := by decide +kernel
theorem hC_B_child_1 (cI cZ cQ : ClassId) (q0 q1 q2 q3 q4 q5 q6 q7 q8 q9 q10 q11 q12 q13 q14 q15 q16 q17 : Nat) (S0 : (Nat → Option Nat)) (S1 : cL) (S2 : cP) : ([] : List Nat).map (fun i => (wB cI cZ cQ q0 q1 q2 S0 ++ wL cI cZ q2 q3 q4 q5 q6 q7 q8 q9 q10 S1 ++ wP cI cZ q11 q12 q13 q14 q15 q16 q17 S2 : va_W)[i]?) = (([] : va_W) : va_W).map some := rfl
theorem hU_B_child_1 (cI cZ cQ : ClassId) (q0 q1 q2 q3 q4 q5 q6 q7 q8 q9 q10 q11 q12 q13 q14 q15 q16 q17 : Nat) (S0 : (Nat → Option Nat)) (S1 : cL) (S2 : cP)  : vz_put (wB cI cZ cQ q0 q1 q2 S0 ++ wL cI cZ q2 q3 q4 q5 q6 q7 q8 q9 q10 S1 ++ wP cI cZ q11 q12 q13 q14 q15 q16 q17 S2 : va_W) [] (([] : va_W) : va_W) = wB cI cZ cQ q0 q1 q2 S0 ++ wL cI cZ q2 q3 q4 q5 q6 q7 q8 q9 q10 S1 ++ wP cI cZ q11 q12 q13 q14 q15 q16 q17 S2 := (show vz_put ([(q0, .inr (3, [.ref q2, .ref q1])), (q1, .inl (cQ, 4, .inr (.inr (.inr (.inr S0))))), (q2, .inr (1, [.ref q3, .ref q4, .ref q5, .ref q6, .ref q7, .ref q8, .ref q9, .ref q10, .int S1.2.2.2.2.2.2.2.2.1, .int S1.2.2.2.2.2.2.2.2.2])), (q3, .inl (cI, 301, .inl S1.1)), (q4, .inl (cI, 301, .inl S1.2.1)), (q5, .inl (cI, 301, .inl S1.2.2.1)), (q6, .inl (cI, 301, .inl S1.2.2.2.1)), (q7, .inl (cI, 301, .inl S1.2.2.2.2.1)), (q8, .inl (cI, 301, .inl S1.2.2.2.2.2.1)), (q9, .inl (cI, 301, .inl S1.2.2.2.2.2.2.1)), (q10, .inl (cI, 300, .inl S1.2.2.2.2.2.2.2.1)), (q11, .inr (2, [.ref q12, .ref q13, .int S2.2.2.1, .int S2.2.2.2.1, .int S2.2.2.2.2])), (q12, .inl (cI, 301, .inl S2.1)), (q13, .inr (0, [.ref q14, .ref q15, .ref q16, .ref q17, .int S2.2.1.2.2.2.2])), (q14, .inl (cZ, 40, .inl S2.2.1.1)), (q15, .inl (cI, 40, .inl S2.2.1.2.1)), (q16, .inl (cI, 40, .inl S2.2.1.2.2.1)), (q17, .inl (cI, 40, .inl S2.2.1.2.2.2.1))] : va_W) [] ([] : va_W) = [(q0, .inr (3, [.ref q2, .ref q1])), (q1, .inl (cQ, 4, .inr (.inr (.inr (.inr S0))))), (q2, .inr (1, [.ref q3, .ref q4, .ref q5, .ref q6, .ref q7, .ref q8, .ref q9, .ref q10, .int S1.2.2.2.2.2.2.2.2.1, .int S1.2.2.2.2.2.2.2.2.2])), (q3, .inl (cI, 301, .inl S1.1)), (q4, .inl (cI, 301, .inl S1.2.1)), (q5, .inl (cI, 301, .inl S1.2.2.1)), (q6, .inl (cI, 301, .inl S1.2.2.2.1)), (q7, .inl (cI, 301, .inl S1.2.2.2.2.1)), (q8, .inl (cI, 301, .inl S1.2.2.2.2.2.1)), (q9, .inl (cI, 301, .inl S1.2.2.2.2.2.2.1)), (q10, .inl (cI, 300, .inl S1.2.2.2.2.2.2.2.1)), (q11, .inr (2, [.ref q12, .ref q13, .int S2.2.2.1, .int S2.2.2.2.1, .int S2.2.2.2.2])), (q12, .inl (cI, 301, .inl S2.1)), (q13, .inr (0, [.ref q14, .ref q15, .ref q16, .ref q17, .int S2.2.1.2.2.2.2])), (q14, .inl (cZ, 40, .inl S2.2.1.1)), (q15, .inl (cI, 40, .inl S2.2.1.2.1)), (q16, .inl (cI, 40, .inl S2.2.1.2.2.1)), (q17, .inl (cI, 40, .inl S2.2.1.2.2.2.1))] from rfl).trans rfl
theorem hC_B_child_49 (cI cZ cQ : ClassId) (q0 q1 q2 q3 q4 q5 q6 q7 q8 q9 q10 q11 q12 q13 q14 q15 q16 q17 : Nat) (S0 : (Nat → Option Nat)) (S1 : cL) (S2 : cP) : ([13, 14, 15, 16, 17] : List Nat).map (fun i => (wB cI cZ cQ q0 q1 q2 S0 ++ wL cI cZ q2 q3 q4 q5 q6 q7 q8 q9 q10 S1 ++ wP cI cZ q11 q12 q13 q14 q15 q16 q17 S2 : va_W)[i]?) = (wT cI cZ q13 q14 q15 q16 q17 S2.2.1 : va_W).map some := rfl
theorem hF_T_childAt (cI cZ cQ : ClassId) {h0 a1 a2 a3 a4 : Nat} (S0 R0 : cT) : (wT cI cZ h0 a1 a2 a3 a4 R0 : va_W).map Prod.fst = (wT cI cZ h0 a1 a2 a3 a4 S0 : va_W).map Prod.fst := rfl
theorem hU_B_child_49 (cI cZ cQ : ClassId) (q0 q1 q2 q3 q4 q5 q6 q7 q8 q9 q10 q11 q12 q13 q14 q15 q16 q17 : Nat) (S0 : (Nat → Option Nat)) (S1 : cL) (S2 : cP)  : vz_put (wB cI cZ cQ q0 q1 q2 S0 ++ wL cI cZ q2 q3 q4 q5 q6 q7 q8 q9 q10 S1 ++ wP cI cZ q11 q12 q13 q14 q15 q16 q17 S2 : va_W) [13, 14, 15, 16, 17] (wT cI cZ q13 q14 q15 q16 q17 S2.2.1 : va_W) = wB cI cZ cQ q0 q1 q2 S0 ++ wL cI cZ q2 q3 q4 q5 q6 q7 q8 q9 q10 S1 ++ wP cI cZ q11 q12 q13 q14 q15 q16 q17 S2 := (show vz_put ([(q0, .inr (3, [.ref q2, .ref q1])), (q1, .inl (cQ, 4, .inr (.inr (.inr (.inr S0))))), (q2, .inr (1, [.ref q3, .ref q4, .ref q5, .ref q6, .ref q7, .ref q8, .ref q9, .ref q10, .int S1.2.2.2.2.2.2.2.2.1, .int S1.2.2.2.2.2.2.2.2.2])), (q3, .inl (cI, 301, .inl S1.1)), (q4, .inl (cI, 301, .inl S1.2.1)), (q5, .inl (cI, 301, .inl S1.2.2.1)), (q6, .inl (cI, 301, .inl S1.2.2.2.1)), (q7, .inl (cI, 301, .inl S1.2.2.2.2.1)), (q8, .inl (cI, 301, .inl S1.2.2.2.2.2.1)), (q9, .inl (cI, 301, .inl S1.2.2.2.2.2.2.1)), (q10, .inl (cI, 300, .inl S1.2.2.2.2.2.2.2.1)), (q11, .inr (2, [.ref q12, .ref q13, .int S2.2.2.1, .int S2.2.2.2.1, .int S2.2.2.2.2])), (q12, .inl (cI, 301, .inl S2.1)), (q13, .inr (0, [.ref q14, .ref q15, .ref q16, .ref q17, .int S2.2.1.2.2.2.2])), (q14, .inl (cZ, 40, .inl S2.2.1.1)), (q15, .inl (cI, 40, .inl S2.2.1.2.1)), (q16, .inl (cI, 40, .inl S2.2.1.2.2.1)), (q17, .inl (cI, 40, .inl S2.2.1.2.2.2.1))] : va_W) [13, 14, 15, 16, 17] ([(q13, .inr (0, [.ref q14, .ref q15, .ref q16, .ref q17, .int S2.2.1.2.2.2.2])), (q14, .inl (cZ, 40, .inl S2.2.1.1)), (q15, .inl (cI, 40, .inl S2.2.1.2.1)), (q16, .inl (cI, 40, .inl S2.2.1.2.2.1)), (q17, .inl (cI, 40, .inl S2.2.1.2.2.2.1))] : va_W) = [(q0, .inr (3, [.ref q2, .ref q1])), (q1, .inl (cQ, 4, .inr (.inr (.inr (.inr S0))))), (q2, .inr (1, [.ref q3, .ref q4, .ref q5, .ref q6, .ref q7, .ref q8, .ref q9, .ref q10, .int S1.2.2.2.2.2.2.2.2.1, .int S1.2.2.2.2.2.2.2.2.2])), (q3, .inl (cI, 301, .inl S1.1)), (q4, .inl (cI, 301, .inl S1.2.1)), (q5, .inl (cI, 301, .inl S1.2.2.1)), (q6, .inl (cI, 301, .inl S1.2.2.2.1)), (q7, .inl (cI, 301, .inl S1.2.2.2.2.1)), (q8, .inl (cI, 301, .inl S1.2.2.2.2.2.1)), (q9, .inl (cI, 301, .inl S1.2.2.2.2.2.2.1)), (q10, .inl (cI, 300, .inl S1.2.2.2.2.2.2.2.1)), (q11, .inr (2, [.ref q12, .ref q13, .int S2.2.2.1, .int S2.2.2.2.1, .int S2.2.2.2.2])), (q12, .inl (cI, 301, .inl S2.1)), (q13, .inr (0, [.ref q14, .ref q15, .ref q16, .ref q17, .int S2.2.1.2.2.2.2])), (q14, .inl (cZ, 40, .inl S2.2.1.1)), (q15, .inl (cI, 40, .inl S2.2.1.2.1)), (q16, .inl (cI, 40, .inl S2.2.1.2.2.1)), (q17, .inl (cI, 40, .inl S2.2.1.2.2.2.1))] from rfl).trans rfl
theorem hC_B_child_27 (cI cZ cQ : ClassId) (q0 q1 q2 q3 q4 q5 q6 q7 q8 q9 q10 q11 q12 q13 q14 q15 q16 q17 : Nat) (S0 : (Nat → Option Nat)) (S1 : cL) (S2 : cP) : ([0, 1, 2, 3, 4, 5, 6, 7, 8, 9, 10] : List Nat).map (fun i => (wB cI cZ cQ q0 q1 q2 S0 ++ wL cI cZ q2 q3 q4 q5 q6 q7 q8 q9 q10 S1 ++ wP cI cZ q11 q12 q13 q14 q15 q16 q17 S2 : va_W)[i]?) = (wB cI cZ cQ q0 q1 q2 S0 ++ wL cI cZ q2 q3 q4 q5 q6 q7 q8 q9 q10 S1 : va_W).map some := rfl
theorem hU_B_child_27 (cI cZ cQ : ClassId) (q0 q1 q2 q3 q4 q5 q6 q7 q8 q9 q10 q11 q12 q13 q14 q15 q16 q17 : Nat) (S0 : (Nat → Option Nat)) (S1 : cL) (S2 : cP)  : vz_put (wB cI cZ cQ q0 q1 q2 S0 ++ wL cI cZ q2 q3 q4 q5 q6 q7 q8 q9 q10 S1 ++ wP cI cZ q11 q12 q13 q14 q15 q16 q17 S2 : va_W) [0, 1, 2, 3, 4, 5, 6, 7, 8, 9, 10] (wB cI cZ cQ q0 q1 q2 S0 ++ wL cI cZ q2 q3 q4 q5 q6 q7 q8 q9 q10 S1 : va_W) = wB cI cZ cQ q0 q1 q2 S0 ++ wL cI cZ q2 q3 q4 q5 q6 q7 q8 q9 q10 S1 ++ wP cI cZ q11 q12 q13 q14 q15 q16 q17 S2 := (show vz_put ([(q0, .inr (3, [.ref q2, .ref q1])), (q1, .inl (cQ, 4, .inr (.inr (.inr (.inr S0))))), (q2, .inr (1, [.ref q3, .ref q4, .ref q5, .ref q6, .ref q7, .ref q8, .ref q9, .ref q10, .int S1.2.2.2.2.2.2.2.2.1, .int S1.2.2.2.2.2.2.2.2.2])), (q3, .inl (cI, 301, .inl S1.1)), (q4, .inl (cI, 301, .inl S1.2.1)), (q5, .inl (cI, 301, .inl S1.2.2.1)), (q6, .inl (cI, 301, .inl S1.2.2.2.1)), (q7, .inl (cI, 301, .inl S1.2.2.2.2.1)), (q8, .inl (cI, 301, .inl S1.2.2.2.2.2.1)), (q9, .inl (cI, 301, .inl S1.2.2.2.2.2.2.1)), (q10, .inl (cI, 300, .inl S1.2.2.2.2.2.2.2.1)), (q11, .inr (2, [.ref q12, .ref q13, .int S2.2.2.1, .int S2.2.2.2.1, .int S2.2.2.2.2])), (q12, .inl (cI, 301, .inl S2.1)), (q13, .inr (0, [.ref q14, .ref q15, .ref q16, .ref q17, .int S2.2.1.2.2.2.2])), (q14, .inl (cZ, 40, .inl S2.2.1.1)), (q15, .inl (cI, 40, .inl S2.2.1.2.1)), (q16, .inl (cI, 40, .inl S2.2.1.2.2.1)), (q17, .inl (cI, 40, .inl S2.2.1.2.2.2.1))] : va_W) [0, 1, 2, 3, 4, 5, 6, 7, 8, 9, 10] ([(q0, .inr (3, [.ref q2, .ref q1])), (q1, .inl (cQ, 4, .inr (.inr (.inr (.inr S0))))), (q2, .inr (1, [.ref q3, .ref q4, .ref q5, .ref q6, .ref q7, .ref q8, .ref q9, .ref q10, .int S1.2.2.2.2.2.2.2.2.1, .int S1.2.2.2.2.2.2.2.2.2])), (q3, .inl (cI, 301, .inl S1.1)), (q4, .inl (cI, 301, .inl S1.2.1)), (q5, .inl (cI, 301, .inl S1.2.2.1)), (q6, .inl (cI, 301, .inl S1.2.2.2.1)), (q7, .inl (cI, 301, .inl S1.2.2.2.2.1)), (q8, .inl (cI, 301, .inl S1.2.2.2.2.2.1)), (q9, .inl (cI, 301, .inl S1.2.2.2.2.2.2.1)), (q10, .inl (cI, 300, .inl S1.2.2.2.2.2.2.2.1))] : va_W) = [(q0, .inr (3, [.ref q2, .ref q1])), (q1, .inl (cQ, 4, .inr (.inr (.inr (.inr S0))))), (q2, .inr (1, [.ref q3, .ref q4, .ref q5, .ref q6, .ref q7, .ref q8, .ref q9, .ref q10, .int S1.2.2.2.2.2.2.2.2.1, .int S1.2.2.2.2.2.2.2.2.2])), (q3, .inl (cI, 301, .inl S1.1)), (q4, .inl (cI, 301, .inl S1.2.1)), (q5, .inl (cI, 301, .inl S1.2.2.1)), (q6, .inl (cI, 301, .inl S1.2.2.2.1)), (q7, .inl (cI, 301, .inl S1.2.2.2.2.1)), (q8, .inl (cI, 301, .inl S1.2.2.2.2.2.1)), (q9, .inl (cI, 301, .inl S1.2.2.2.2.2.2.1)), (q10, .inl (cI, 300, .inl S1.2.2.2.2.2.2.2.1)), (q11, .inr (2, [.ref q12, .ref q13, .int S2.2.2.1, .int S2.2.2.2.1, .int S2.2.2.2.2])), (q12, .inl (cI, 301, .inl S2.1)), (q13, .inr (0, [.ref q14, .ref q15, .ref q16, .ref q17, .int S2.2.1.2.2.2.2])), (q14, .inl (cZ, 40, .inl S2.2.1.1)), (q15, .inl (cI, 40, .inl S2.2.1.2.1)), (q16, .inl (cI, 40, .inl S2.2.1.2.2.1)), (q17, .inl (cI, 40, .inl S2.2.1.2.2.2.1))] from rfl).trans rfl
def m_B_child (L : cL) (P : cP) (x1 : Int32) (x2 : Int32) (x3 : Int32) : Int32 := (if (m_B_isNode x1) = 0 then -1 else (if x2 = (-1) then (m_T_childAt P.2.1 x2 x3) else (if (m_B_isObject L x2) = 0 then -1 else (if (P.2.1.1 x2.toNatClampNeg) = 0 then -1 else (m_T_childAt P.2.1 x2 x3)))))
set_option maxHeartbeats 1000000 in
set_option maxRecDepth 100000 in
theorem c_B_child (l : Launch) (dC : Nat → ClassId) (dI : Nat → Nat → Nat) (cI cZ cQ : ClassId) (b0 : Nat) (b1 : Nat) (F : Nat → Option Nat) (u0 : Nat) (u1 : Nat) (u2 : Nat) (u3 : Nat) (u4 : Nat) (u5 : Nat) (u6 : Nat) (u7 : Nat) (u8 : Nat) (L : cL) (p0 : Nat) (p1 : Nat) (h0 : Nat) (a1 : Nat) (a2 : Nat) (a3 : Nat) (a4 : Nat) (P : cP) (x1 : Int32) (x2 : Int32) (x3 : Int32) (hF : 0 ≤ x1.toInt → x1.toInt < 4 → F x1.toNatClampNeg = some p0) (hL : okL L) (hok : okT P.2.1) : vz_C l (dC, dI) classes [(cI, .int), (cZ, .boolean), (cQ, .object "BinTrees$Person")] y_B_child (Cond.code y_B_child b_B_child 5 (some .int) :: vz_tbl) ({ frames := 1, cells := 0, slots := 0, locals := 24 }) [.ref b0, .int x1, .int x2, .int x3] (wB cI cZ cQ b0 b1 u0 F ++ wL cI cZ u0 u1 u2 u3 u4 u5 u6 u7 u8 L ++ wP cI cZ p0 p1 h0 a1 a2 a3 a4 P) (some (.int (m_B_child L P x1 x2 x3))) (wB cI cZ cQ b0 b1 u0 F ++ wL cI cZ u0 u1 u2 u3 u4 u5 u6 u7 u8 L ++ wP cI cZ p0 p1 h0 a1 a2 a3 a4 P) := by
  generalize hres : (m_B_child L P x1 x2 x3) = RES
  refine vz_C.of (by decide) (Nat.le_of_ble_eq_true rfl) ?_
  intro p e s m below meth c ls E hl hK hP hD hS
  obtain ⟨hx, hb, hr, hml, hown, hT, hlocks⟩ := E
  obtain ⟨Q, hQ⟩ : ∃ Q, Q = MQ below (vz_Q (dC, dI) classes (wB cI cZ cQ b0 b1 u0 F ++ wL cI cZ u0 u1 u2 u3 u4 u5 u6 u7 u8 L ++ wP cI cZ p0 p1 h0 a1 a2 a3 a4 P) (some (.int RES)) (wB cI cZ cQ b0 b1 u0 F ++ wL cI cZ u0 u1 u2 u3 u4 u5 u6 u7 u8 L ++ wP cI cZ p0 p1 h0 a1 a2 a3 a4 P)) ([.ref b0, .int x1, .int x2, .int x3] : List Value).toArray s 0 0 (vz_A (wB cI cZ cQ b0 b1 u0 F ++ wL cI cZ u0 u1 u2 u3 u4 u5 u6 u7 u8 L ++ wP cI cZ p0 p1 h0 a1 a2 a3 a4 P)) := ⟨_, rfl⟩
  rw [← hQ]
  have hl : lv_has ls 5 [(0, .ref b0), (1, .int x1), (2, .int x2), (3, .int x3)] := hl
  have T0 := ti_0
  have T1 := ti_1
  have Tm := ti_m1
  have T8 := ti_8
  have T39 := ti_39
  have T40 := ti_40
  have T4 := ti_4
  have T300 := ti_300
  have hS0 := hS
  refine lv_iload_n hx hb d_B_child_0 rfl (lv_at hl 1 rfl) ?_
  have hc := c_B_isNode l dC dI cI cZ cQ x1 
  generalize hg_1 : (m_B_isNode x1) = g_1 at hc
  refine vz_callS (As := [.int x1]) (rest := []) ⟨hx, hb, hml, hown, hT⟩ hc (vz_goodS kw_143 kw_144 kw_1 kw_145) hd_B_isNode ⟨⟨rfl, rfl⟩, Nat.le_of_ble_eq_true rfl, Nat.le_of_ble_eq_true rfl⟩ hK hP hD hS [] rfl (hC_B_child_1 cI cZ cQ b0 b1 u0 u1 u2 u3 u4 u5 u6 u7 u8 p0 p1 h0 a1 a2 a3 a4 F L P) (hF_B_isNode cI cZ cQ ) rfl hl.1 rfl (Nat.le_of_ble_eq_true rfl) ⟨Nat.zero_le _, Nat.zero_le _⟩ d_B_child_1 (fun H locs hP hD hS => ?_)
  have hP : va_P (dC, dI) classes (wB cI cZ cQ b0 b1 u0 F ++ wL cI cZ u0 u1 u2 u3 u4 u5 u6 u7 u8 L ++ wP cI cZ p0 p1 h0 a1 a2 a3 a4 P) H := vz_reP (hU_B_child_1 cI cZ cQ b0 b1 u0 u1 u2 u3 u4 u5 u6 u7 u8 p0 p1 h0 a1 a2 a3 a4 F L P ) hP
  have hD : va_D (vz_A (wB cI cZ cQ b0 b1 u0 F ++ wL cI cZ u0 u1 u2 u3 u4 u5 u6 u7 u8 L ++ wP cI cZ p0 p1 h0 a1 a2 a3 a4 P)) (wB cI cZ cQ b0 b1 u0 F ++ wL cI cZ u0 u1 u2 u3 u4 u5 u6 u7 u8 L ++ wP cI cZ p0 p1 h0 a1 a2 a3 a4 P) := vz_reD (hU_B_child_1 cI cZ cQ b0 b1 u0 u1 u2 u3 u4 u5 u6 u7 u8 p0 p1 h0 a1 a2 a3 a4 F L P ) hD
  refine W.eq (g2 := F0 m 4 ls [.int g_1]) rfl ?_
  refine lv_if_ne (tgt := 9) hx hb d_B_child_4 (by decide) (fun c_4 => ?_) (fun c_4 => ?_)
  · have z_4 : ¬ g_1.toInt = (0 : Int32).toInt := mt Int32.toInt_inj.mp c_4
    refine lv_aload_n hx hb d_B_child_9 rfl (lv_at hl 0 rfl) ?_
    refine va_get (D := (dC, dI)) (ci := 3) (v := .ref b1) (C := R_B) (T := F_B) (N := 2) hx hb hT i_B hown hK hP 0 rfl rfl 1 (by decide) (hT _ kw_129) (fun _ h9 => h9) rfl d_B_child_10 ?_
    refine lv_iload_n hx hb d_B_child_13 rfl (lv_at hl 1 rfl) ?_
    refine va_aldq hx hb hK hP 1 2 rfl rfl (by have hn := isn_t (x0 := x1) (by rw [hg_1]; assumption); exact ti_vp (by omega) (by omega)) d_B_child_14 ?_
    rw [show va_rf (F x1.toNatClampNeg) = .ref p0 from by have hn := isn_t (x0 := x1) (by rw [hg_1]; assumption); rw [hF hn.1 hn.2]; rfl]
    refine va_get (D := (dC, dI)) (ci := 2) (v := .ref h0) (C := R_P) (T := F_P) (N := 5) hx hb hT i_P hown hK hP 11 rfl rfl 1 (by decide) (hT _ kw_110) (fun _ h9 => h9) rfl d_B_child_15 ?_
    refine lv_astore (lv' := [(4, .ref h0), (0, .ref b0), (1, .int x1), (2, .int x2), (3, .int x3)]) hx hb d_B_child_18 hl (by decide) rfl (fun ls hl => ?_)
    refine lv_iload_n hx hb d_B_child_20 rfl (lv_at hl 3 rfl) ?_
    refine lv_iconst (v := -1) hx hb d_B_child_21 (by decide) ?_
    refine lv_icmp_eq (tgt := 45) hx hb d_B_child_22 (by decide) (fun c_22 => ?_) (fun c_22 => ?_)
    · have z_22 : x2.toInt = (-1 : Int32).toInt := congrArg Int32.toInt c_22
      refine lv_aload hx hb d_B_child_45 (lv_at hl 0 rfl) ?_
      refine lv_iload_n hx hb d_B_child_47 rfl (lv_at hl 3 rfl) ?_
      refine lv_iload_n hx hb d_B_child_48 rfl (lv_at hl 4 rfl) ?_
      have hc := c_T_childAt l dC dI cI cZ cQ h0 a1 a2 a3 a4 P.2.1 x2 x3 (ok_le hok) (hok.2.1)
      generalize hg_49 : (m_T_childAt P.2.1 x2 x3) = g_49 at hc
      refine vz_callV (As := [.int x2, .int x3]) (rest := []) ⟨hx, hb, hml, hown, hT⟩ hc (vz_goodV kw_285 kw_286 kw_287 kw_4 kw_288) ⟨rfl, hd_T_childAt⟩ ⟨⟨rfl, rfl⟩, Nat.le_of_ble_eq_true rfl, Nat.le_of_ble_eq_true rfl⟩ hK hP hD hS [13, 14, 15, 16, 17] rfl (hC_B_child_49 cI cZ cQ b0 b1 u0 u1 u2 u3 u4 u5 u6 u7 u8 p0 p1 h0 a1 a2 a3 a4 F L P) (hF_T_childAt cI cZ cQ _ _) 0 0 rfl rfl rfl rfl hl.1 rfl (Nat.le_of_ble_eq_true rfl) ⟨Nat.zero_le _, Nat.zero_le _⟩ d_B_child_49 (fun H locs hP hD hS => ?_)
      have hP : va_P (dC, dI) classes (wB cI cZ cQ b0 b1 u0 F ++ wL cI cZ u0 u1 u2 u3 u4 u5 u6 u7 u8 L ++ wP cI cZ p0 p1 h0 a1 a2 a3 a4 P) H := vz_reP (hU_B_child_49 cI cZ cQ b0 b1 u0 u1 u2 u3 u4 u5 u6 u7 u8 p0 p1 h0 a1 a2 a3 a4 F L P ) hP
      have hD : va_D (vz_A (wB cI cZ cQ b0 b1 u0 F ++ wL cI cZ u0 u1 u2 u3 u4 u5 u6 u7 u8 L ++ wP cI cZ p0 p1 h0 a1 a2 a3 a4 P)) (wB cI cZ cQ b0 b1 u0 F ++ wL cI cZ u0 u1 u2 u3 u4 u5 u6 u7 u8 L ++ wP cI cZ p0 p1 h0 a1 a2 a3 a4 P) := vz_reD (hU_B_child_49 cI cZ cQ b0 b1 u0 u1 u2 u3 u4 u5 u6 u7 u8 p0 p1 h0 a1 a2 a3 a4 F L P ) hD
      refine W.eq (g2 := F0 m 52 ls [.int g_49]) rfl ?_
      rw [m_B_child] at hres
      try rw [hg_1] at hres
      rw [if_neg c_4, if_pos c_22] at hres
      try rw [hg_49] at hres
      subst hres
      subst hQ
      exact vz_iret hx hb hr hlocks d_B_child_52 hS rfl hP
    · have z_22 : ¬ x2.toInt = (-1 : Int32).toInt := mt Int32.toInt_inj.mp c_22
      refine lv_aload_n hx hb d_B_child_25 rfl (lv_at hl 1 rfl) ?_
      refine lv_iload_n hx hb d_B_child_26 rfl (lv_at hl 3 rfl) ?_
      have hc := c_B_isObject l dC dI cI cZ cQ b0 b1 F u0 u1 u2 u3 u4 u5 u6 u7 u8 L x2 
      generalize hg_27 : (m_B_isObject L x2) = g_27 at hc
      refine vz_callV (As := [.int x2]) (rest := []) ⟨hx, hb, hml, hown, hT⟩ hc (vz_goodV kw_231 kw_233 ks_10 kw_1 kw_234) ⟨rfl, hd_B_isObject⟩ ⟨⟨rfl, rfl⟩, Nat.le_of_ble_eq_true rfl, Nat.le_of_ble_eq_true rfl⟩ hK hP hD hS [0, 1, 2, 3, 4, 5, 6, 7, 8, 9, 10] rfl (hC_B_child_27 cI cZ cQ b0 b1 u0 u1 u2 u3 u4 u5 u6 u7 u8 p0 p1 h0 a1 a2 a3 a4 F L P) (hF_B_isObject cI cZ cQ _ _ _ _) 0 3 rfl rfl rfl rfl hl.1 rfl (Nat.le_of_ble_eq_true rfl) ⟨Nat.zero_le _, Nat.zero_le _⟩ d_B_child_27 (fun H locs hP hD hS => ?_)
      have hP : va_P (dC, dI) classes (wB cI cZ cQ b0 b1 u0 F ++ wL cI cZ u0 u1 u2 u3 u4 u5 u6 u7 u8 L ++ wP cI cZ p0 p1 h0 a1 a2 a3 a4 P) H := vz_reP (hU_B_child_27 cI cZ cQ b0 b1 u0 u1 u2 u3 u4 u5 u6 u7 u8 p0 p1 h0 a1 a2 a3 a4 F L P ) hP
      have hD : va_D (vz_A (wB cI cZ cQ b0 b1 u0 F ++ wL cI cZ u0 u1 u2 u3 u4 u5 u6 u7 u8 L ++ wP cI cZ p0 p1 h0 a1 a2 a3 a4 P)) (wB cI cZ cQ b0 b1 u0 F ++ wL cI cZ u0 u1 u2 u3 u4 u5 u6 u7 u8 L ++ wP cI cZ p0 p1 h0 a1 a2 a3 a4 P) := vz_reD (hU_B_child_27 cI cZ cQ b0 b1 u0 u1 u2 u3 u4 u5 u6 u7 u8 p0 p1 h0 a1 a2 a3 a4 F L P ) hD
      refine W.eq (g2 := F0 m 30 ls [.int g_27]) rfl ?_
      refine lv_if_eq (tgt := 43) hx hb d_B_child_30 (by decide) (fun c_30 => ?_) (fun c_30 => ?_)
      · have z_30 : g_27.toInt = (0 : Int32).toInt := congrArg Int32.toInt c_30
        refine lv_iconst (v := -1) hx hb d_B_child_43 (by decide) ?_
        rw [m_B_child] at hres
        try rw [hg_1] at hres
        rw [if_neg c_4, if_neg c_22] at hres
        try rw [hg_27] at hres
        rw [if_pos c_30] at hres
        subst hres
        subst hQ
        exact vz_iret hx hb hr hlocks d_B_child_44 hS rfl hP
      · have z_30 : ¬ g_27.toInt = (0 : Int32).toInt := mt Int32.toInt_inj.mp c_30
        refine lv_aload hx hb d_B_child_33 (lv_at hl 0 rfl) ?_
        refine va_get (D := (dC, dI)) (ci := 0) (v := .ref a1) (C := R_T) (T := F_T) (N := 5) hx hb hT i_T hown hK hP 13 rfl rfl 0 (by decide) (hT _ kw_87) (fun _ h9 => h9) rfl d_B_child_35 ?_
        refine lv_iload_n hx hb d_B_child_38 rfl (lv_at hl 3 rfl) ?_
        refine va_zald hx hb hK hP 14 1 rfl rfl (by have ho := iso_t (L := L) (x1 := x2) (by rw [hg_27]; assumption); have hl1 := hL.2.2; exact ti_vp (by omega) (by omega)) d_B_child_39 ?_
        refine lv_if_ne (tgt := 45) hx hb d_B_child_40 (by decide) (fun c_40 => ?_) (fun c_40 => ?_)
        · have z_40 : ¬ (P.2.1.1 x2.toNatClampNeg).toInt = (0 : Int32).toInt := mt Int32.toInt_inj.mp c_40
          refine lv_aload hx hb d_B_child_45 (lv_at hl 0 rfl) ?_
          refine lv_iload_n hx hb d_B_child_47 rfl (lv_at hl 3 rfl) ?_
          refine lv_iload_n hx hb d_B_child_48 rfl (lv_at hl 4 rfl) ?_
          have hc := c_T_childAt l dC dI cI cZ cQ h0 a1 a2 a3 a4 P.2.1 x2 x3 (ok_le hok) (hok.2.1)
          generalize hg_49 : (m_T_childAt P.2.1 x2 x3) = g_49 at hc
          refine vz_callV (As := [.int x2, .int x3]) (rest := []) ⟨hx, hb, hml, hown, hT⟩ hc (vz_goodV kw_285 kw_286 kw_287 kw_4 kw_288) ⟨rfl, hd_T_childAt⟩ ⟨⟨rfl, rfl⟩, Nat.le_of_ble_eq_true rfl, Nat.le_of_ble_eq_true rfl⟩ hK hP hD hS [13, 14, 15, 16, 17] rfl (hC_B_child_49 cI cZ cQ b0 b1 u0 u1 u2 u3 u4 u5 u6 u7 u8 p0 p1 h0 a1 a2 a3 a4 F L P) (hF_T_childAt cI cZ cQ _ _) 0 0 rfl rfl rfl rfl hl.1 rfl (Nat.le_of_ble_eq_true rfl) ⟨Nat.zero_le _, Nat.zero_le _⟩ d_B_child_49 (fun H locs hP hD hS => ?_)
          have hP : va_P (dC, dI) classes (wB cI cZ cQ b0 b1 u0 F ++ wL cI cZ u0 u1 u2 u3 u4 u5 u6 u7 u8 L ++ wP cI cZ p0 p1 h0 a1 a2 a3 a4 P) H := vz_reP (hU_B_child_49 cI cZ cQ b0 b1 u0 u1 u2 u3 u4 u5 u6 u7 u8 p0 p1 h0 a1 a2 a3 a4 F L P ) hP
          have hD : va_D (vz_A (wB cI cZ cQ b0 b1 u0 F ++ wL cI cZ u0 u1 u2 u3 u4 u5 u6 u7 u8 L ++ wP cI cZ p0 p1 h0 a1 a2 a3 a4 P)) (wB cI cZ cQ b0 b1 u0 F ++ wL cI cZ u0 u1 u2 u3 u4 u5 u6 u7 u8 L ++ wP cI cZ p0 p1 h0 a1 a2 a3 a4 P) := vz_reD (hU_B_child_49 cI cZ cQ b0 b1 u0 u1 u2 u3 u4 u5 u6 u7 u8 p0 p1 h0 a1 a2 a3 a4 F L P ) hD
          refine W.eq (g2 := F0 m 52 ls [.int g_49]) rfl ?_
          rw [m_B_child] at hres
          try rw [hg_1] at hres
          rw [if_neg c_4, if_neg c_22] at hres
          try rw [hg_27] at hres
          rw [if_neg c_30, if_neg c_40] at hres
          try rw [hg_49] at hres
          subst hres
          subst hQ
          exact vz_iret hx hb hr hlocks d_B_child_52 hS rfl hP
        · have z_40 : (P.2.1.1 x2.toNatClampNeg).toInt = (0 : Int32).toInt := congrArg Int32.toInt c_40
          refine lv_iconst (v := -1) hx hb d_B_child_43 (by decide) ?_
          rw [m_B_child] at hres
          try rw [hg_1] at hres
          rw [if_neg c_4, if_neg c_22] at hres
          try rw [hg_27] at hres
          rw [if_neg c_30, if_pos c_40] at hres
          subst hres
          subst hQ
          exact vz_iret hx hb hr hlocks d_B_child_44 hS rfl hP
  · have z_4 : g_1.toInt = (0 : Int32).toInt := congrArg Int32.toInt c_4
    refine lv_iconst (v := -1) hx hb d_B_child_7 (by decide) ?_
    rw [m_B_child] at hres
    try rw [hg_1] at hres
    rw [if_pos c_4] at hres
    subst hres
    subst hQ
    exact vz_iret hx hb hr hlocks d_B_child_8 hS rfl hP
