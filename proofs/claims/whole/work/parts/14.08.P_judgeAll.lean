theorem d_P_judgeAll_0 : decode b_P_judgeAll 0 = .ok (.aload_n 0, 1) := by decide +kernel
theorem d_P_judgeAll_1 : decode b_P_judgeAll 1 = .ok (.getfield 18, 3) := by decide +kernel
theorem d_P_judgeAll_4 : decode b_P_judgeAll 4 = .ok (.invokevirtual 62, 3) := by decide +kernel
theorem d_P_judgeAll_7 : decode b_P_judgeAll 7 = .ok (.iconst 0, 1) := by decide +kernel
theorem d_P_judgeAll_8 : decode b_P_judgeAll 8 = .ok (.istore_n 2, 1) := by decide +kernel
theorem d_P_judgeAll_9 : decode b_P_judgeAll 9 = .ok (.iload_n 2, 1) := by decide +kernel
theorem d_P_judgeAll_10 : decode b_P_judgeAll 10 = .ok (.aload_n 1, 1) := by decide +kernel
theorem d_P_judgeAll_11 : decode b_P_judgeAll 11 = .ok (.getfield 56, 3) := by decide +kernel
theorem d_P_judgeAll_14 : decode b_P_judgeAll 14 = .ok (.if_icmp .ge 33, 3) := by decide +kernel
theorem d_P_judgeAll_17 : decode b_P_judgeAll 17 = .ok (.aload_n 0, 1) := by decide +kernel
theorem d_P_judgeAll_18 : decode b_P_judgeAll 18 = .ok (.aload_n 1, 1) := by decide +kernel
theorem d_P_judgeAll_19 : decode b_P_judgeAll 19 = .ok (.getfield 59, 3) := by decide +kernel
theorem d_P_judgeAll_22 : decode b_P_judgeAll 22 = .ok (.iload_n 2, 1) := by decide +kernel
theorem d_P_judgeAll_23 : decode b_P_judgeAll 23 = .ok (.iaload, 1) := by decide +kernel
theorem d_P_judgeAll_24 : decode b_P_judgeAll 24 = .ok (.invokevirtual 52, 3) := by decide +kernel
theorem d_P_judgeAll_27 : decode b_P_judgeAll 27 = .ok (.ifCond .eq 14, 3) := by decide +kernel
theorem d_P_judgeAll_30 : decode b_P_judgeAll 30 = .ok (.aload_n 0, 1) := by decide +kernel
theorem d_P_judgeAll_31 : decode b_P_judgeAll 31 = .ok (.aload_n 1, 1) := by decide +kernel
theorem d_P_judgeAll_32 : decode b_P_judgeAll 32 = .ok (.aload_n 1, 1) := by decide +kernel
theorem d_P_judgeAll_33 : decode b_P_judgeAll 33 = .ok (.getfield 59, 3) := by decide +kernel
theorem d_P_judgeAll_36 : decode b_P_judgeAll 36 = .ok (.iload_n 2, 1) := by decide +kernel
theorem d_P_judgeAll_37 : decode b_P_judgeAll 37 = .ok (.iaload, 1) := by decide +kernel
theorem d_P_judgeAll_38 : decode b_P_judgeAll 38 = .ok (.invokevirtual 65, 3) := by decide +kernel
theorem d_P_judgeAll_41 : decode b_P_judgeAll 41 = .ok (.iinc 2 1, 3) := by decide +kernel
theorem d_P_judgeAll_44 : decode b_P_judgeAll 44 = .ok (.goto (-35), 3) := by decide +kernel
theorem d_P_judgeAll_47 : decode b_P_judgeAll 47 = .ok (.return_, 1) := by decide +kernel
theorem hC_P_judgeAll_24 (cI cZ cQ : ClassId) (q0 q1 q2 q3 q4 q5 q6 q7 q8 q9 q10 q11 q12 q13 q14 q15 : Nat) (S0 : cL) (S1 : cP) : ([9, 10, 11, 12, 13, 14, 15] : List Nat).map (fun i => (wL cI cZ q0 q1 q2 q3 q4 q5 q6 q7 q8 S0 ++ wP cI cZ q9 q10 q11 q12 q13 q14 q15 S1 : va_W)[i]?) = (wP cI cZ q9 q10 q11 q12 q13 q14 q15 S1 : va_W).map some := rfl
theorem hU_P_judgeAll_24 (cI cZ cQ : ClassId) (q0 q1 q2 q3 q4 q5 q6 q7 q8 q9 q10 q11 q12 q13 q14 q15 : Nat) (S0 : cL) (S1 : cP)  : vz_put (wL cI cZ q0 q1 q2 q3 q4 q5 q6 q7 q8 S0 ++ wP cI cZ q9 q10 q11 q12 q13 q14 q15 S1 : va_W) [9, 10, 11, 12, 13, 14, 15] (wP cI cZ q9 q10 q11 q12 q13 q14 q15 S1 : va_W) = wL cI cZ q0 q1 q2 q3 q4 q5 q6 q7 q8 S0 ++ wP cI cZ q9 q10 q11 q12 q13 q14 q15 S1 := (show vz_put ([(q0, .inr (1, [.ref q1, .ref q2, .ref q3, .ref q4, .ref q5, .ref q6, .ref q7, .ref q8, .int S0.2.2.2.2.2.2.2.2.1, .int S0.2.2.2.2.2.2.2.2.2])), (q1, .inl (cI, 301, .inl S0.1)), (q2, .inl (cI, 301, .inl S0.2.1)), (q3, .inl (cI, 301, .inl S0.2.2.1)), (q4, .inl (cI, 301, .inl S0.2.2.2.1)), (q5, .inl (cI, 301, .inl S0.2.2.2.2.1)), (q6, .inl (cI, 301, .inl S0.2.2.2.2.2.1)), (q7, .inl (cI, 301, .inl S0.2.2.2.2.2.2.1)), (q8, .inl (cI, 300, .inl S0.2.2.2.2.2.2.2.1)), (q9, .inr (2, [.ref q10, .ref q11, .int S1.2.2.1, .int S1.2.2.2.1, .int S1.2.2.2.2])), (q10, .inl (cI, 301, .inl S1.1)), (q11, .inr (0, [.ref q12, .ref q13, .ref q14, .ref q15, .int S1.2.1.2.2.2.2])), (q12, .inl (cZ, 40, .inl S1.2.1.1)), (q13, .inl (cI, 40, .inl S1.2.1.2.1)), (q14, .inl (cI, 40, .inl S1.2.1.2.2.1)), (q15, .inl (cI, 40, .inl S1.2.1.2.2.2.1))] : va_W) [9, 10, 11, 12, 13, 14, 15] ([(q9, .inr (2, [.ref q10, .ref q11, .int S1.2.2.1, .int S1.2.2.2.1, .int S1.2.2.2.2])), (q10, .inl (cI, 301, .inl S1.1)), (q11, .inr (0, [.ref q12, .ref q13, .ref q14, .ref q15, .int S1.2.1.2.2.2.2])), (q12, .inl (cZ, 40, .inl S1.2.1.1)), (q13, .inl (cI, 40, .inl S1.2.1.2.1)), (q14, .inl (cI, 40, .inl S1.2.1.2.2.1)), (q15, .inl (cI, 40, .inl S1.2.1.2.2.2.1))] : va_W) = [(q0, .inr (1, [.ref q1, .ref q2, .ref q3, .ref q4, .ref q5, .ref q6, .ref q7, .ref q8, .int S0.2.2.2.2.2.2.2.2.1, .int S0.2.2.2.2.2.2.2.2.2])), (q1, .inl (cI, 301, .inl S0.1)), (q2, .inl (cI, 301, .inl S0.2.1)), (q3, .inl (cI, 301, .inl S0.2.2.1)), (q4, .inl (cI, 301, .inl S0.2.2.2.1)), (q5, .inl (cI, 301, .inl S0.2.2.2.2.1)), (q6, .inl (cI, 301, .inl S0.2.2.2.2.2.1)), (q7, .inl (cI, 301, .inl S0.2.2.2.2.2.2.1)), (q8, .inl (cI, 300, .inl S0.2.2.2.2.2.2.2.1)), (q9, .inr (2, [.ref q10, .ref q11, .int S1.2.2.1, .int S1.2.2.2.1, .int S1.2.2.2.2])), (q10, .inl (cI, 301, .inl S1.1)), (q11, .inr (0, [.ref q12, .ref q13, .ref q14, .ref q15, .int S1.2.1.2.2.2.2])), (q12, .inl (cZ, 40, .inl S1.2.1.1)), (q13, .inl (cI, 40, .inl S1.2.1.2.1)), (q14, .inl (cI, 40, .inl S1.2.1.2.2.1)), (q15, .inl (cI, 40, .inl S1.2.1.2.2.2.1))] from rfl).trans rfl
theorem hC_P_judgeAll_38 (cI cZ cQ : ClassId) (q0 q1 q2 q3 q4 q5 q6 q7 q8 q9 q10 q11 q12 q13 q14 q15 : Nat) (S0 : cL) (S1 : cP) : ([0, 1, 2, 3, 4, 5, 6, 7, 8, 9, 10, 11, 12, 13, 14, 15] : List Nat).map (fun i => (wL cI cZ q0 q1 q2 q3 q4 q5 q6 q7 q8 S0 ++ wP cI cZ q9 q10 q11 q12 q13 q14 q15 S1 : va_W)[i]?) = (wL cI cZ q0 q1 q2 q3 q4 q5 q6 q7 q8 S0 ++ wP cI cZ q9 q10 q11 q12 q13 q14 q15 S1 : va_W).map some := rfl
theorem hF_P_judge (cI cZ cQ : ClassId) {u0 u1 u2 u3 u4 u5 u6 u7 u8 p0 p1 h0 a1 a2 a3 a4 : Nat} (S0 R0 : cL) (S1 R1 : cP) : (wL cI cZ u0 u1 u2 u3 u4 u5 u6 u7 u8 R0 ++ wP cI cZ p0 p1 h0 a1 a2 a3 a4 R1 : va_W).map Prod.fst = (wL cI cZ u0 u1 u2 u3 u4 u5 u6 u7 u8 S0 ++ wP cI cZ p0 p1 h0 a1 a2 a3 a4 S1 : va_W).map Prod.fst := rfl
theorem hU_P_judgeAll_38 (cI cZ cQ : ClassId) (q0 q1 q2 q3 q4 q5 q6 q7 q8 q9 q10 q11 q12 q13 q14 q15 : Nat) (S0 : cL) (S1 : cP) (R1 : cP) : vz_put (wL cI cZ q0 q1 q2 q3 q4 q5 q6 q7 q8 S0 ++ wP cI cZ q9 q10 q11 q12 q13 q14 q15 S1 : va_W) [0, 1, 2, 3, 4, 5, 6, 7, 8, 9, 10, 11, 12, 13, 14, 15] (wL cI cZ q0 q1 q2 q3 q4 q5 q6 q7 q8 S0 ++ wP cI cZ q9 q10 q11 q12 q13 q14 q15 R1 : va_W) = wL cI cZ q0 q1 q2 q3 q4 q5 q6 q7 q8 S0 ++ wP cI cZ q9 q10 q11 q12 q13 q14 q15 R1 := (show vz_put ([(q0, .inr (1, [.ref q1, .ref q2, .ref q3, .ref q4, .ref q5, .ref q6, .ref q7, .ref q8, .int S0.2.2.2.2.2.2.2.2.1, .int S0.2.2.2.2.2.2.2.2.2])), (q1, .inl (cI, 301, .inl S0.1)), (q2, .inl (cI, 301, .inl S0.2.1)), (q3, .inl (cI, 301, .inl S0.2.2.1)), (q4, .inl (cI, 301, .inl S0.2.2.2.1)), (q5, .inl (cI, 301, .inl S0.2.2.2.2.1)), (q6, .inl (cI, 301, .inl S0.2.2.2.2.2.1)), (q7, .inl (cI, 301, .inl S0.2.2.2.2.2.2.1)), (q8, .inl (cI, 300, .inl S0.2.2.2.2.2.2.2.1)), (q9, .inr (2, [.ref q10, .ref q11, .int S1.2.2.1, .int S1.2.2.2.1, .int S1.2.2.2.2])), (q10, .inl (cI, 301, .inl S1.1)), (q11, .inr (0, [.ref q12, .ref q13, .ref q14, .ref q15, .int S1.2.1.2.2.2.2])), (q12, .inl (cZ, 40, .inl S1.2.1.1)), (q13, .inl (cI, 40, .inl S1.2.1.2.1)), (q14, .inl (cI, 40, .inl S1.2.1.2.2.1)), (q15, .inl (cI, 40, .inl S1.2.1.2.2.2.1))] : va_W) [0, 1, 2, 3, 4, 5, 6, 7, 8, 9, 10, 11, 12, 13, 14, 15] ([(q0, .inr (1, [.ref q1, .ref q2, .ref q3, .ref q4, .ref q5, .ref q6, .ref q7, .ref q8, .int S0.2.2.2.2.2.2.2.2.1, .int S0.2.2.2.2.2.2.2.2.2])), (q1, .inl (cI, 301, .inl S0.1)), (q2, .inl (cI, 301, .inl S0.2.1)), (q3, .inl (cI, 301, .inl S0.2.2.1)), (q4, .inl (cI, 301, .inl S0.2.2.2.1)), (q5, .inl (cI, 301, .inl S0.2.2.2.2.1)), (q6, .inl (cI, 301, .inl S0.2.2.2.2.2.1)), (q7, .inl (cI, 301, .inl S0.2.2.2.2.2.2.1)), (q8, .inl (cI, 300, .inl S0.2.2.2.2.2.2.2.1)), (q9, .inr (2, [.ref q10, .ref q11, .int R1.2.2.1, .int R1.2.2.2.1, .int R1.2.2.2.2])), (q10, .inl (cI, 301, .inl R1.1)), (q11, .inr (0, [.ref q12, .ref q13, .ref q14, .ref q15, .int R1.2.1.2.2.2.2])), (q12, .inl (cZ, 40, .inl R1.2.1.1)), (q13, .inl (cI, 40, .inl R1.2.1.2.1)), (q14, .inl (cI, 40, .inl R1.2.1.2.2.1)), (q15, .inl (cI, 40, .inl R1.2.1.2.2.2.1))] : va_W) = [(q0, .inr (1, [.ref q1, .ref q2, .ref q3, .ref q4, .ref q5, .ref q6, .ref q7, .ref q8, .int S0.2.2.2.2.2.2.2.2.1, .int S0.2.2.2.2.2.2.2.2.2])), (q1, .inl (cI, 301, .inl S0.1)), (q2, .inl (cI, 301, .inl S0.2.1)), (q3, .inl (cI, 301, .inl S0.2.2.1)), (q4, .inl (cI, 301, .inl S0.2.2.2.1)), (q5, .inl (cI, 301, .inl S0.2.2.2.2.1)), (q6, .inl (cI, 301, .inl S0.2.2.2.2.2.1)), (q7, .inl (cI, 301, .inl S0.2.2.2.2.2.2.1)), (q8, .inl (cI, 300, .inl S0.2.2.2.2.2.2.2.1)), (q9, .inr (2, [.ref q10, .ref q11, .int R1.2.2.1, .int R1.2.2.2.1, .int R1.2.2.2.2])), (q10, .inl (cI, 301, .inl R1.1)), (q11, .inr (0, [.ref q12, .ref q13, .ref q14, .ref q15, .int R1.2.1.2.2.2.2])), (q12, .inl (cZ, 40, .inl R1.2.1.1)), (q13, .inl (cI, 40, .inl R1.2.1.2.1)), (q14, .inl (cI, 40, .inl R1.2.1.2.2.1)), (q15, .inl (cI, 40, .inl R1.2.1.2.2.2.1))] from rfl).trans rfl
theorem hC_P_judgeAll_4 (cI cZ cQ : ClassId) (q0 q1 q2 q3 q4 q5 q6 q7 q8 q9 q10 q11 q12 q13 q14 q15 : Nat) (S0 : cL) (S1 : cP) : ([11, 12, 13, 14, 15] : List Nat).map (fun i => (wL cI cZ q0 q1 q2 q3 q4 q5 q6 q7 q8 S0 ++ wP cI cZ q9 q10 q11 q12 q13 q14 q15 S1 : va_W)[i]?) = (wT cI cZ q11 q12 q13 q14 q15 S1.2.1 : va_W).map some := rfl
theorem hF_T_startAnew (cI cZ cQ : ClassId) {h0 a1 a2 a3 a4 : Nat} (S0 R0 : cT) : (wT cI cZ h0 a1 a2 a3 a4 R0 : va_W).map Prod.fst = (wT cI cZ h0 a1 a2 a3 a4 S0 : va_W).map Prod.fst := rfl
theorem hU_P_judgeAll_4 (cI cZ cQ : ClassId) (q0 q1 q2 q3 q4 q5 q6 q7 q8 q9 q10 q11 q12 q13 q14 q15 : Nat) (S0 : cL) (S1 : cP) (R0 : cT) : vz_put (wL cI cZ q0 q1 q2 q3 q4 q5 q6 q7 q8 S0 ++ wP cI cZ q9 q10 q11 q12 q13 q14 q15 S1 : va_W) [11, 12, 13, 14, 15] (wT cI cZ q11 q12 q13 q14 q15 R0 : va_W) = wL cI cZ q0 q1 q2 q3 q4 q5 q6 q7 q8 S0 ++ wP cI cZ q9 q10 q11 q12 q13 q14 q15 (S1.1, R0, S1.2.2.1, S1.2.2.2.1, S1.2.2.2.2) := (show vz_put ([(q0, .inr (1, [.ref q1, .ref q2, .ref q3, .ref q4, .ref q5, .ref q6, .ref q7, .ref q8, .int S0.2.2.2.2.2.2.2.2.1, .int S0.2.2.2.2.2.2.2.2.2])), (q1, .inl (cI, 301, .inl S0.1)), (q2, .inl (cI, 301, .inl S0.2.1)), (q3, .inl (cI, 301, .inl S0.2.2.1)), (q4, .inl (cI, 301, .inl S0.2.2.2.1)), (q5, .inl (cI, 301, .inl S0.2.2.2.2.1)), (q6, .inl (cI, 301, .inl S0.2.2.2.2.2.1)), (q7, .inl (cI, 301, .inl S0.2.2.2.2.2.2.1)), (q8, .inl (cI, 300, .inl S0.2.2.2.2.2.2.2.1)), (q9, .inr (2, [.ref q10, .ref q11, .int S1.2.2.1, .int S1.2.2.2.1, .int S1.2.2.2.2])), (q10, .inl (cI, 301, .inl S1.1)), (q11, .inr (0, [.ref q12, .ref q13, .ref q14, .ref q15, .int S1.2.1.2.2.2.2])), (q12, .inl (cZ, 40, .inl S1.2.1.1)), (q13, .inl (cI, 40, .inl S1.2.1.2.1)), (q14, .inl (cI, 40, .inl S1.2.1.2.2.1)), (q15, .inl (cI, 40, .inl S1.2.1.2.2.2.1))] : va_W) [11, 12, 13, 14, 15] ([(q11, .inr (0, [.ref q12, .ref q13, .ref q14, .ref q15, .int R0.2.2.2.2])), (q12, .inl (cZ, 40, .inl R0.1)), (q13, .inl (cI, 40, .inl R0.2.1)), (q14, .inl (cI, 40, .inl R0.2.2.1)), (q15, .inl (cI, 40, .inl R0.2.2.2.1))] : va_W) = [(q0, .inr (1, [.ref q1, .ref q2, .ref q3, .ref q4, .ref q5, .ref q6, .ref q7, .ref q8, .int S0.2.2.2.2.2.2.2.2.1, .int S0.2.2.2.2.2.2.2.2.2])), (q1, .inl (cI, 301, .inl S0.1)), (q2, .inl (cI, 301, .inl S0.2.1)), (q3, .inl (cI, 301, .inl S0.2.2.1)), (q4, .inl (cI, 301, .inl S0.2.2.2.1)), (q5, .inl (cI, 301, .inl S0.2.2.2.2.1)), (q6, .inl (cI, 301, .inl S0.2.2.2.2.2.1)), (q7, .inl (cI, 301, .inl S0.2.2.2.2.2.2.1)), (q8, .inl (cI, 300, .inl S0.2.2.2.2.2.2.2.1)), (q9, .inr (2, [.ref q10, .ref q11, .int S1.2.2.1, .int S1.2.2.2.1, .int S1.2.2.2.2])), (q10, .inl (cI, 301, .inl S1.1)), (q11, .inr (0, [.ref q12, .ref q13, .ref q14, .ref q15, .int R0.2.2.2.2])), (q12, .inl (cZ, 40, .inl R0.1)), (q13, .inl (cI, 40, .inl R0.2.1)), (q14, .inl (cI, 40, .inl R0.2.2.1)), (q15, .inl (cI, 40, .inl R0.2.2.2.1))] from rfl).trans rfl
def l_P_judgeAll_9 (L : cL) : Nat → Int32 → cP → cP
  | 0, _, S => S
  | n + 1, x2, S => (if L.2.2.2.2.2.2.2.2.1 ≤ x2 then S else (if (m_P_knows S (L.2.2.2.2.2.2.2.1 x2.toNatClampNeg)) = 0 then (l_P_judgeAll_9 L n (x2 + 1) S) else (l_P_judgeAll_9 L n (x2 + 1) (m_P_judge L S (L.2.2.2.2.2.2.2.1 x2.toNatClampNeg)))))
def m_P_judgeAll (L : cL) (P : cP) : cP := (l_P_judgeAll_9 L 301 0 (P.1, (m_T_startAnew P.2.1), P.2.2.1, P.2.2.2.1, P.2.2.2.2))
set_option maxHeartbeats 1000000 in
set_option maxRecDepth 100000 in
theorem c_P_judgeAll (l : Launch) (dC : Nat → ClassId) (dI : Nat → Nat → Nat) (cI cZ cQ : ClassId) (u0 : Nat) (u1 : Nat) (u2 : Nat) (u3 : Nat) (u4 : Nat) (u5 : Nat) (u6 : Nat) (u7 : Nat) (u8 : Nat) (L : cL) (p0 : Nat) (p1 : Nat) (h0 : Nat) (a1 : Nat) (a2 : Nat) (a3 : Nat) (a4 : Nat) (P : cP) (J : Int32 → cP → Prop) (hcnt : 0 ≤ L.2.2.2.2.2.2.2.2.1.toInt ∧ L.2.2.2.2.2.2.2.2.1.toInt ≤ 300) (hord : ∀ j, j < 300 → 0 ≤ (L.2.2.2.2.2.2.2.1 j).toInt ∧ (L.2.2.2.2.2.2.2.1 j).toInt < 301) (hJ0 : J 0 (P.1, m_T_startAnew P.2.1, P.2.2)) (hJk : ∀ (x : Int32) (S : cP), 0 ≤ x.toInt → x.toInt < L.2.2.2.2.2.2.2.2.1.toInt → J x S → okR L (L.2.2.2.2.2.2.2.1 x.toNatClampNeg) ∧ okT S.2.1 ∧ (¬ m_P_knows S (L.2.2.2.2.2.2.2.1 x.toNatClampNeg) = 0 → J (x + 1) (m_P_judge L S (L.2.2.2.2.2.2.2.1 x.toNatClampNeg))) ∧ (m_P_knows S (L.2.2.2.2.2.2.2.1 x.toNatClampNeg) = 0 → J (x + 1) S)) : vz_C l (dC, dI) classes [(cI, .int), (cZ, .boolean), (cQ, .object "BinTrees$Person")] y_P_judgeAll (Cond.code y_P_judgeAll b_P_judgeAll 3 none :: vz_tbl) ({ frames := 4, cells := 0, slots := 0, locals := 96 }) [.ref p0, .ref u0] (wL cI cZ u0 u1 u2 u3 u4 u5 u6 u7 u8 L ++ wP cI cZ p0 p1 h0 a1 a2 a3 a4 P) (none) (wL cI cZ u0 u1 u2 u3 u4 u5 u6 u7 u8 L ++ wP cI cZ p0 p1 h0 a1 a2 a3 a4 (m_P_judgeAll L P)) := by
  generalize hres : (m_P_judgeAll L P) = RES
  refine vz_C.of (by decide) (Nat.le_of_ble_eq_true rfl) ?_
  intro p e s m below meth c ls E hl hK hP hD hS
  obtain ⟨hx, hb, hr, hml, hown, hT, hlocks⟩ := E
  obtain ⟨Q, hQ⟩ : ∃ Q, Q = MQ below (vz_Q (dC, dI) classes (wL cI cZ u0 u1 u2 u3 u4 u5 u6 u7 u8 L ++ wP cI cZ p0 p1 h0 a1 a2 a3 a4 P) (none) (wL cI cZ u0 u1 u2 u3 u4 u5 u6 u7 u8 L ++ wP cI cZ p0 p1 h0 a1 a2 a3 a4 RES)) ([.ref p0, .ref u0] : List Value).toArray s 0 0 (vz_A (wL cI cZ u0 u1 u2 u3 u4 u5 u6 u7 u8 L ++ wP cI cZ p0 p1 h0 a1 a2 a3 a4 P)) := ⟨_, rfl⟩
  rw [← hQ]
  have hl : lv_has ls 3 [(0, .ref p0), (1, .ref u0)] := hl
  have T0 := ti_0
  have T1 := ti_1
  have Tm := ti_m1
  have T8 := ti_8
  have T39 := ti_39
  have T40 := ti_40
  have T4 := ti_4
  have T300 := ti_300
  have k_9 : ∀ (n : Nat) (x2 : Int32) (S : cP), l_P_judgeAll_9 L n x2 S = RES → (0 ≤ x2.toInt ∧ x2.toInt ≤ L.2.2.2.2.2.2.2.2.1.toInt ∧ L.2.2.2.2.2.2.2.2.1.toInt < n + x2.toInt) → (J x2 S) → ∀ (H : Heap) (locs : List Loc) (ls : Array Slot), va_P (dC, dI) classes (wL cI cZ u0 u1 u2 u3 u4 u5 u6 u7 u8 L ++ wP cI cZ p0 p1 h0 a1 a2 a3 a4 S) H → va_D (vz_A (wL cI cZ u0 u1 u2 u3 u4 u5 u6 u7 u8 L ++ wP cI cZ p0 p1 h0 a1 a2 a3 a4 P)) (wL cI cZ u0 u1 u2 u3 u4 u5 u6 u7 u8 L ++ wP cI cZ p0 p1 h0 a1 a2 a3 a4 S) → va_S (vz_A (wL cI cZ u0 u1 u2 u3 u4 u5 u6 u7 u8 L ++ wP cI cZ p0 p1 h0 a1 a2 a3 a4 P)) s.heap H locs → lv_has ls 3 [(0, .ref p0), (1, .ref u0), (2, .int x2)] → W p l e ({ frames := 4, cells := 0, slots := 0, locals := 96 }) s m ([.ref p0, .ref u0] : List Value).toArray below meth c H locs 0 0 Q (F0 m 9 ls []) := by
    intro n
    induction n with
    | zero =>
      intro x2 S hres i2 hJ H locs ls hP hD hS hl
      exfalso
      omega
    | succ n ih =>
      intro x2 S hres i2 hJ H locs ls hP hD hS hl
      refine lv_iload_n hx hb d_P_judgeAll_9 rfl (lv_at hl 2 rfl) ?_
      refine lv_aload_n hx hb d_P_judgeAll_10 rfl (lv_at hl 1 rfl) ?_
      refine va_get (D := (dC, dI)) (ci := 1) (v := .int L.2.2.2.2.2.2.2.2.1) (C := R_L) (T := F_L) (N := 10) hx hb hT i_L hown hK hP 0 rfl rfl 8 (by decide) (hT _ kw_44) (fun _ h9 => h9) rfl d_P_judgeAll_11 ?_
      refine lv_icmp_ge (tgt := 47) hx hb d_P_judgeAll_14 (by decide) (fun c_14 => ?_) (fun c_14 => ?_)
      · have z_14 : L.2.2.2.2.2.2.2.2.1.toInt ≤ x2.toInt := Int32.le_iff_toInt_le.mp c_14
        rw [l_P_judgeAll_9, if_pos c_14] at hres
        subst hres
        subst hQ
        exact vz_vret hx hb hr hlocks d_P_judgeAll_47 hS rfl hP
      · have z_14 : ¬ L.2.2.2.2.2.2.2.2.1.toInt ≤ x2.toInt := mt Int32.le_iff_toInt_le.mpr c_14
        refine lv_aload_n hx hb d_P_judgeAll_17 rfl (lv_at hl 0 rfl) ?_
        refine lv_aload_n hx hb d_P_judgeAll_18 rfl (lv_at hl 1 rfl) ?_
        refine va_get (D := (dC, dI)) (ci := 1) (v := .ref u8) (C := R_L) (T := F_L) (N := 10) hx hb hT i_L hown hK hP 0 rfl rfl 7 (by decide) (hT _ kw_41) (fun _ h9 => h9) rfl d_P_judgeAll_19 ?_
        refine lv_iload_n hx hb d_P_judgeAll_22 rfl (lv_at hl 2 rfl) ?_
        refine va_iald hx hb hK hP 8 0 rfl rfl (ti_vp (by omega) (by omega)) d_P_judgeAll_23 ?_
        have hc := c_P_knows l dC dI cI cZ cQ p0 p1 h0 a1 a2 a3 a4 S (L.2.2.2.2.2.2.2.1 x2.toNatClampNeg) ((hJk x2 S (by omega) (by omega) hJ).1.1)
        generalize hg_24 : (m_P_knows S (L.2.2.2.2.2.2.2.1 x2.toNatClampNeg)) = g_24 at hc
        refine vz_callV (As := [.int (L.2.2.2.2.2.2.2.1 x2.toNatClampNeg)]) (rest := []) ⟨hx, hb, hml, hown, hT⟩ hc (vz_goodV kw_173 kw_174 kw_175 kw_3 kw_176) ⟨rfl, hd_P_knows⟩ ⟨⟨rfl, rfl⟩, Nat.le_of_ble_eq_true rfl, Nat.le_of_ble_eq_true rfl⟩ hK hP hD hS [9, 10, 11, 12, 13, 14, 15] rfl (hC_P_judgeAll_24 cI cZ cQ u0 u1 u2 u3 u4 u5 u6 u7 u8 p0 p1 h0 a1 a2 a3 a4 L S) (hF_P_knows cI cZ cQ _ _) 0 2 rfl rfl rfl rfl hl.1 rfl (Nat.le_of_ble_eq_true rfl) ⟨Nat.zero_le _, Nat.zero_le _⟩ d_P_judgeAll_24 (fun H locs hP hD hS => ?_)
        have hP : va_P (dC, dI) classes (wL cI cZ u0 u1 u2 u3 u4 u5 u6 u7 u8 L ++ wP cI cZ p0 p1 h0 a1 a2 a3 a4 S) H := vz_reP (hU_P_judgeAll_24 cI cZ cQ u0 u1 u2 u3 u4 u5 u6 u7 u8 p0 p1 h0 a1 a2 a3 a4 L S ) hP
        have hD : va_D (vz_A (wL cI cZ u0 u1 u2 u3 u4 u5 u6 u7 u8 L ++ wP cI cZ p0 p1 h0 a1 a2 a3 a4 P)) (wL cI cZ u0 u1 u2 u3 u4 u5 u6 u7 u8 L ++ wP cI cZ p0 p1 h0 a1 a2 a3 a4 S) := vz_reD (hU_P_judgeAll_24 cI cZ cQ u0 u1 u2 u3 u4 u5 u6 u7 u8 p0 p1 h0 a1 a2 a3 a4 L S ) hD
        refine W.eq (g2 := F0 m 27 ls [.int g_24]) rfl ?_
        refine lv_if_eq (tgt := 41) hx hb d_P_judgeAll_27 (by decide) (fun c_27 => ?_) (fun c_27 => ?_)
        · have z_27 : g_24.toInt = (0 : Int32).toInt := congrArg Int32.toInt c_27
          refine lv_iinc (v := x2 + 1) (lv' := [(2, .int (x2 + 1)), (0, .ref p0), (1, .ref u0)]) hx hb d_P_judgeAll_41 hl (k := 2) rfl rfl (by decide) rfl (fun ls hl => ?_)
          refine lv_goto (tgt := 9) hx hb d_P_judgeAll_44 (by decide) ?_
          rw [l_P_judgeAll_9, if_neg c_14] at hres
          try rw [hg_24] at hres
          rw [if_pos c_27] at hres
          exact ih (x2 + 1) S  hres (by rw [ti_inc (x := x2) (by omega)]; omega) (by first | (rw [← hg_38]; exact (hJk x2 S (by omega) (by omega) hJ).2.2.1 (by rw [hg_24]; assumption)) | exact (hJk x2 S (by omega) (by omega) hJ).2.2.2 (by rw [hg_24]; assumption)) H locs ls hP hD hS (lv_sub hl [1, 2, 0] rfl)
        · have z_27 : ¬ g_24.toInt = (0 : Int32).toInt := mt Int32.toInt_inj.mp c_27
          refine lv_aload_n hx hb d_P_judgeAll_30 rfl (lv_at hl 0 rfl) ?_
          refine lv_aload_n hx hb d_P_judgeAll_31 rfl (lv_at hl 1 rfl) ?_
          refine lv_aload_n hx hb d_P_judgeAll_32 rfl (lv_at hl 1 rfl) ?_
          refine va_get (D := (dC, dI)) (ci := 1) (v := .ref u8) (C := R_L) (T := F_L) (N := 10) hx hb hT i_L hown hK hP 0 rfl rfl 7 (by decide) (hT _ kw_41) (fun _ h9 => h9) rfl d_P_judgeAll_33 ?_
          refine lv_iload_n hx hb d_P_judgeAll_36 rfl (lv_at hl 2 rfl) ?_
          refine va_iald hx hb hK hP 8 0 rfl rfl (ti_vp (by omega) (by omega)) d_P_judgeAll_37 ?_
          have hc := c_P_judge l dC dI cI cZ cQ u0 u1 u2 u3 u4 u5 u6 u7 u8 L p0 p1 h0 a1 a2 a3 a4 S (L.2.2.2.2.2.2.2.1 x2.toNatClampNeg) ((hJk x2 S (by omega) (by omega) hJ).2.1) ((hJk x2 S (by omega) (by omega) hJ).1)
          generalize hg_38 : (m_P_judge L S (L.2.2.2.2.2.2.2.1 x2.toNatClampNeg)) = g_38 at hc
          refine vz_callV (As := [.ref u0, .int (L.2.2.2.2.2.2.2.1 x2.toNatClampNeg)]) (rest := []) ⟨hx, hb, hml, hown, hT⟩ hc (vz_goodV kw_222 kw_178 kw_179 kw_3 kw_180) ⟨rfl, hd_P_judge⟩ ⟨⟨rfl, rfl⟩, Nat.le_of_ble_eq_true rfl, Nat.le_of_ble_eq_true rfl⟩ hK hP hD hS [0, 1, 2, 3, 4, 5, 6, 7, 8, 9, 10, 11, 12, 13, 14, 15] rfl (hC_P_judgeAll_38 cI cZ cQ u0 u1 u2 u3 u4 u5 u6 u7 u8 p0 p1 h0 a1 a2 a3 a4 L S) (hF_P_judge cI cZ cQ _ _ _ _) 9 2 rfl rfl rfl rfl hl.1 rfl (Nat.le_of_ble_eq_true rfl) ⟨Nat.zero_le _, Nat.zero_le _⟩ d_P_judgeAll_38 (fun H locs hP hD hS => ?_)
          have hP : va_P (dC, dI) classes (wL cI cZ u0 u1 u2 u3 u4 u5 u6 u7 u8 L ++ wP cI cZ p0 p1 h0 a1 a2 a3 a4 g_38) H := vz_reP (hU_P_judgeAll_38 cI cZ cQ u0 u1 u2 u3 u4 u5 u6 u7 u8 p0 p1 h0 a1 a2 a3 a4 L S g_38) hP
          have hD : va_D (vz_A (wL cI cZ u0 u1 u2 u3 u4 u5 u6 u7 u8 L ++ wP cI cZ p0 p1 h0 a1 a2 a3 a4 P)) (wL cI cZ u0 u1 u2 u3 u4 u5 u6 u7 u8 L ++ wP cI cZ p0 p1 h0 a1 a2 a3 a4 g_38) := vz_reD (hU_P_judgeAll_38 cI cZ cQ u0 u1 u2 u3 u4 u5 u6 u7 u8 p0 p1 h0 a1 a2 a3 a4 L S g_38) hD
          refine W.eq (g2 := F0 m 41 ls []) rfl ?_
          refine lv_iinc (v := x2 + 1) (lv' := [(2, .int (x2 + 1)), (0, .ref p0), (1, .ref u0)]) hx hb d_P_judgeAll_41 hl (k := 2) rfl rfl (by decide) rfl (fun ls hl => ?_)
          refine lv_goto (tgt := 9) hx hb d_P_judgeAll_44 (by decide) ?_
          rw [l_P_judgeAll_9, if_neg c_14] at hres
          try rw [hg_24] at hres
          rw [if_neg c_27] at hres
          try rw [hg_38] at hres
          exact ih (x2 + 1) g_38  hres (by rw [ti_inc (x := x2) (by omega)]; omega) (by first | (rw [← hg_38]; exact (hJk x2 S (by omega) (by omega) hJ).2.2.1 (by rw [hg_24]; assumption)) | exact (hJk x2 S (by omega) (by omega) hJ).2.2.2 (by rw [hg_24]; assumption)) H locs ls hP hD hS (lv_sub hl [1, 2, 0] rfl)
  have hS0 := hS
  refine lv_aload_n hx hb d_P_judgeAll_0 rfl (lv_at hl 0 rfl) ?_
  refine va_get (D := (dC, dI)) (ci := 2) (v := .ref h0) (C := R_P) (T := F_P) (N := 5) hx hb hT i_P hown hK hP 9 rfl rfl 1 (by decide) (hT _ kw_109) (fun _ h9 => h9) rfl d_P_judgeAll_1 ?_
  have hc := c_T_startAnew l dC dI cI cZ cQ h0 a1 a2 a3 a4 P.2.1 
  generalize hg_4 : (m_T_startAnew P.2.1) = g_4 at hc
  refine vz_callV (As := []) (rest := []) ⟨hx, hb, hml, hown, hT⟩ hc (vz_goodV kw_221 kw_83 kw_84 kw_4 kw_85) ⟨rfl, hd_T_startAnew⟩ ⟨⟨rfl, rfl⟩, Nat.le_of_ble_eq_true rfl, Nat.le_of_ble_eq_true rfl⟩ hK hP hD hS [11, 12, 13, 14, 15] rfl (hC_P_judgeAll_4 cI cZ cQ u0 u1 u2 u3 u4 u5 u6 u7 u8 p0 p1 h0 a1 a2 a3 a4 L P) (hF_T_startAnew cI cZ cQ _ _) 0 0 rfl rfl rfl rfl hl.1 rfl (Nat.le_of_ble_eq_true rfl) ⟨Nat.zero_le _, Nat.zero_le _⟩ d_P_judgeAll_4 (fun H locs hP hD hS => ?_)
  have hP : va_P (dC, dI) classes (wL cI cZ u0 u1 u2 u3 u4 u5 u6 u7 u8 L ++ wP cI cZ p0 p1 h0 a1 a2 a3 a4 (P.1, g_4, P.2.2.1, P.2.2.2.1, P.2.2.2.2)) H := vz_reP (hU_P_judgeAll_4 cI cZ cQ u0 u1 u2 u3 u4 u5 u6 u7 u8 p0 p1 h0 a1 a2 a3 a4 L P g_4) hP
  have hD : va_D (vz_A (wL cI cZ u0 u1 u2 u3 u4 u5 u6 u7 u8 L ++ wP cI cZ p0 p1 h0 a1 a2 a3 a4 P)) (wL cI cZ u0 u1 u2 u3 u4 u5 u6 u7 u8 L ++ wP cI cZ p0 p1 h0 a1 a2 a3 a4 (P.1, g_4, P.2.2.1, P.2.2.2.1, P.2.2.2.2)) := vz_reD (hU_P_judgeAll_4 cI cZ cQ u0 u1 u2 u3 u4 u5 u6 u7 u8 p0 p1 h0 a1 a2 a3 a4 L P g_4) hD
  refine W.eq (g2 := F0 m 7 ls []) rfl ?_
  refine lv_iconst (v := 0) hx hb d_P_judgeAll_7 (by decide) ?_
  refine lv_istore_n (lv' := [(2, .int 0), (0, .ref p0), (1, .ref u0)]) hx hb d_P_judgeAll_8 rfl hl (by decide) rfl (fun ls hl => ?_)
  rw [m_P_judgeAll] at hres
  try rw [hg_4] at hres
  exact k_9 301 0 (P.1, g_4, P.2.2.1, P.2.2.2.1, P.2.2.2.2)  hres (by omega) (by rw [← hg_4]; exact hJ0) _ _ ls hP hD hS (lv_sub hl [1, 2, 0] rfl)
