theorem d_B_told_0 : decode b_B_told 0 = .ok (.aload_n 0, 1) := by decide +kernel
theorem d_B_told_1 : decode b_B_told 1 = .ok (.getfield 18, 3) := by decide +kernel
theorem d_B_told_4 : decode b_B_told 4 = .ok (.iload_n 1, 1) := by decide +kernel
theorem d_B_told_5 : decode b_B_told 5 = .ok (.aaload, 1) := by decide +kernel
theorem d_B_told_6 : decode b_B_told 6 = .ok (.astore_n 3, 1) := by decide +kernel
theorem d_B_told_7 : decode b_B_told 7 = .ok (.aload_n 3, 1) := by decide +kernel
theorem d_B_told_8 : decode b_B_told 8 = .ok (.aload_n 0, 1) := by decide +kernel
theorem d_B_told_9 : decode b_B_told 9 = .ok (.getfield 10, 3) := by decide +kernel
theorem d_B_told_12 : decode b_B_told 12 = .ok (.iload_n 2, 1) := by decide +kernel
theorem d_B_told_13 : decode b_B_told 13 = .ok (.invokevirtual 71, 3) := by decide +kernel
theorem d_B_told_16 : decode b_B_told 16 = .ok (.aload_n 3, 1) := by decide +kernel
theorem d_B_told_17 : decode b_B_told 17 = .ok (.getfield 61, 3) := by decide +kernel
theorem d_B_told_20 : decode b_B_told 20 = .ok (.iconst 1, 1) := by decide +kernel
theorem d_B_told_21 : decode b_B_told 21 = .ok (.if_icmp .ne 28, 3) := by decide +kernel
theorem d_B_told_24 : decode b_B_told 24 = .ok (.aload_n 0, 1) := by decide +kernel
theorem d_B_told_25 : decode b_B_told 25 = .ok (.getfield 10, 3) := by decide +kernel
theorem d_B_told_28 : decode b_B_told 28 = .ok (.getfield 111, 3) := by decide +kernel
theorem d_B_told_31 : decode b_B_told 31 = .ok (.iload_n 2, 1) := by decide +kernel
theorem d_B_told_32 : decode b_B_told 32 = .ok (.iaload, 1) := by decide +kernel
theorem d_B_told_33 : decode b_B_told 33 = .ok (.iconst 4, 1) := by decide +kernel
theorem d_B_told_34 : decode b_B_told 34 = .ok (.if_icmp .eq 15, 3) := by decide +kernel
theorem d_B_told_37 : decode b_B_told 37 = .ok (.aload_n 3, 1) := by decide +kernel
theorem d_B_told_38 : decode b_B_told 38 = .ok (.aload_n 0, 1) := by decide +kernel
theorem d_B_told_39 : decode b_B_told 39 = .ok (.getfield 10, 3) := by decide +kernel
theorem d_B_told_42 : decode b_B_told 42 = .ok (.iload_n 2, 1) := by decide +kernel
theorem d_B_told_43 : decode b_B_told 43 = .ok (.invokevirtual 139, 3) := by decide +kernel
theorem d_B_told_46 : decode b_B_told 46 = .ok (.goto 11, 3) := by decide +kernel
theorem d_B_told_49 : decode b_B_told 49 = .ok (.aload_n 3, 1) := by decide +kernel
theorem d_B_told_50 : decode b_B_told 50 = .ok (.aload_n 0, 1) := by decide +kernel
theorem d_B_told_51 : decode b_B_told 51 = .ok (.getfield 10, 3) := by decide +kernel
theorem d_B_told_54 : decode b_B_told 54 = .ok (.invokevirtual 75, 3) := by decide +kernel
theorem d_B_told_57 : decode b_B_told 57 = .ok (.iload_n 2, 1) := by decide +kernel
theorem d_B_told_58 : decode b_B_told 58 = .ok (.ireturn, 1) := by decide +kernel
theorem hC_B_told_13 (cI cZ cQ : ClassId) (q0 q1 q2 q3 q4 q5 q6 q7 q8 q9 q10 q11 q12 q13 q14 q15 q16 q17 : Nat) (S0 : (Nat → Option Nat)) (S1 : cL) (S2 : cP) : ([2, 3, 4, 5, 6, 7, 8, 9, 10, 11, 12, 13, 14, 15, 16, 17] : List Nat).map (fun i => (wB cI cZ cQ q0 q1 q2 S0 ++ wL cI cZ q2 q3 q4 q5 q6 q7 q8 q9 q10 S1 ++ wP cI cZ q11 q12 q13 q14 q15 q16 q17 S2 : va_W)[i]?) = (wL cI cZ q2 q3 q4 q5 q6 q7 q8 q9 q10 S1 ++ wP cI cZ q11 q12 q13 q14 q15 q16 q17 S2 : va_W).map some := rfl
theorem hF_P_learn (cI cZ cQ : ClassId) {u0 u1 u2 u3 u4 u5 u6 u7 u8 p0 p1 h0 a1 a2 a3 a4 : Nat} (S0 R0 : cL) (S1 R1 : cP) : (wL cI cZ u0 u1 u2 u3 u4 u5 u6 u7 u8 R0 ++ wP cI cZ p0 p1 h0 a1 a2 a3 a4 R1 : va_W).map Prod.fst = (wL cI cZ u0 u1 u2 u3 u4 u5 u6 u7 u8 S0 ++ wP cI cZ p0 p1 h0 a1 a2 a3 a4 S1 : va_W).map Prod.fst := rfl
theorem hU_B_told_13 (cI cZ cQ : ClassId) (q0 q1 q2 q3 q4 q5 q6 q7 q8 q9 q10 q11 q12 q13 q14 q15 q16 q17 : Nat) (S0 : (Nat → Option Nat)) (S1 : cL) (S2 : cP) (R1 : cP) : vz_put (wB cI cZ cQ q0 q1 q2 S0 ++ wL cI cZ q2 q3 q4 q5 q6 q7 q8 q9 q10 S1 ++ wP cI cZ q11 q12 q13 q14 q15 q16 q17 S2 : va_W) [2, 3, 4, 5, 6, 7, 8, 9, 10, 11, 12, 13, 14, 15, 16, 17] (wL cI cZ q2 q3 q4 q5 q6 q7 q8 q9 q10 S1 ++ wP cI cZ q11 q12 q13 q14 q15 q16 q17 R1 : va_W) = wB cI cZ cQ q0 q1 q2 S0 ++ wL cI cZ q2 q3 q4 q5 q6 q7 q8 q9 q10 S1 ++ wP cI cZ q11 q12 q13 q14 q15 q16 q17 R1 := (show vz_put ([(q0, .inr (3, [.ref q2, .ref q1])), (q1, .inl (cQ, 4, .inr (.inr (.inr (.inr S0))))), (q2, .inr (1, [.ref q3, .ref q4, .ref q5, .ref q6, .ref q7, .ref q8, .ref q9, .ref q10, .int S1.2.2.2.2.2.2.2.2.1, .int S1.2.2.2.2.2.2.2.2.2])), (q3, .inl (cI, 301, .inl S1.1)), (q4, .inl (cI, 301, .inl S1.2.1)), (q5, .inl (cI, 301, .inl S1.2.2.1)), (q6, .inl (cI, 301, .inl S1.2.2.2.1)), (q7, .inl (cI, 301, .inl S1.2.2.2.2.1)), (q8, .inl (cI, 301, .inl S1.2.2.2.2.2.1)), (q9, .inl (cI, 301, .inl S1.2.2.2.2.2.2.1)), (q10, .inl (cI, 300, .inl S1.2.2.2.2.2.2.2.1)), (q11, .inr (2, [.ref q12, .ref q13, .int S2.2.2.1, .int S2.2.2.2.1, .int S2.2.2.2.2])), (q12, .inl (cI, 301, .inl S2.1)), (q13, .inr (0, [.ref q14, .ref q15, .ref q16, .ref q17, .int S2.2.1.2.2.2.2])), (q14, .inl (cZ, 40, .inl S2.2.1.1)), (q15, .inl (cI, 40, .inl S2.2.1.2.1)), (q16, .inl (cI, 40, .inl S2.2.1.2.2.1)), (q17, .inl (cI, 40, .inl S2.2.1.2.2.2.1))] : va_W) [2, 3, 4, 5, 6, 7, 8, 9, 10, 11, 12, 13, 14, 15, 16, 17] ([(q2, .inr (1, [.ref q3, .ref q4, .ref q5, .ref q6, .ref q7, .ref q8, .ref q9, .ref q10, .int S1.2.2.2.2.2.2.2.2.1, .int S1.2.2.2.2.2.2.2.2.2])), (q3, .inl (cI, 301, .inl S1.1)), (q4, .inl (cI, 301, .inl S1.2.1)), (q5, .inl (cI, 301, .inl S1.2.2.1)), (q6, .inl (cI, 301, .inl S1.2.2.2.1)), (q7, .inl (cI, 301, .inl S1.2.2.2.2.1)), (q8, .inl (cI, 301, .inl S1.2.2.2.2.2.1)), (q9, .inl (cI, 301, .inl S1.2.2.2.2.2.2.1)), (q10, .inl (cI, 300, .inl S1.2.2.2.2.2.2.2.1)), (q11, .inr (2, [.ref q12, .ref q13, .int R1.2.2.1, .int R1.2.2.2.1, .int R1.2.2.2.2])), (q12, .inl (cI, 301, .inl R1.1)), (q13, .inr (0, [.ref q14, .ref q15, .ref q16, .ref q17, .int R1.2.1.2.2.2.2])), (q14, .inl (cZ, 40, .inl R1.2.1.1)), (q15, .inl (cI, 40, .inl R1.2.1.2.1)), (q16, .inl (cI, 40, .inl R1.2.1.2.2.1)), (q17, .inl (cI, 40, .inl R1.2.1.2.2.2.1))] : va_W) = [(q0, .inr (3, [.ref q2, .ref q1])), (q1, .inl (cQ, 4, .inr (.inr (.inr (.inr S0))))), (q2, .inr (1, [.ref q3, .ref q4, .ref q5, .ref q6, .ref q7, .ref q8, .ref q9, .ref q10, .int S1.2.2.2.2.2.2.2.2.1, .int S1.2.2.2.2.2.2.2.2.2])), (q3, .inl (cI, 301, .inl S1.1)), (q4, .inl (cI, 301, .inl S1.2.1)), (q5, .inl (cI, 301, .inl S1.2.2.1)), (q6, .inl (cI, 301, .inl S1.2.2.2.1)), (q7, .inl (cI, 301, .inl S1.2.2.2.2.1)), (q8, .inl (cI, 301, .inl S1.2.2.2.2.2.1)), (q9, .inl (cI, 301, .inl S1.2.2.2.2.2.2.1)), (q10, .inl (cI, 300, .inl S1.2.2.2.2.2.2.2.1)), (q11, .inr (2, [.ref q12, .ref q13, .int R1.2.2.1, .int R1.2.2.2.1, .int R1.2.2.2.2])), (q12, .inl (cI, 301, .inl R1.1)), (q13, .inr (0, [.ref q14, .ref q15, .ref q16, .ref q17, .int R1.2.1.2.2.2.2])), (q14, .inl (cZ, 40, .inl R1.2.1.1)), (q15, .inl (cI, 40, .inl R1.2.1.2.1)), (q16, .inl (cI, 40, .inl R1.2.1.2.2.1)), (q17, .inl (cI, 40, .inl R1.2.1.2.2.2.1))] from rfl).trans rfl
theorem hC_B_told_54 (cI cZ cQ : ClassId) (q0 q1 q2 q3 q4 q5 q6 q7 q8 q9 q10 q11 q12 q13 q14 q15 q16 q17 : Nat) (S0 : (Nat → Option Nat)) (S1 : cL) (S2 : cP) : ([2, 3, 4, 5, 6, 7, 8, 9, 10, 11, 12, 13, 14, 15, 16, 17] : List Nat).map (fun i => (wB cI cZ cQ q0 q1 q2 S0 ++ wL cI cZ q2 q3 q4 q5 q6 q7 q8 q9 q10 S1 ++ wP cI cZ q11 q12 q13 q14 q15 q16 q17 S2 : va_W)[i]?) = (wL cI cZ q2 q3 q4 q5 q6 q7 q8 q9 q10 S1 ++ wP cI cZ q11 q12 q13 q14 q15 q16 q17 S2 : va_W).map some := rfl
theorem hF_P_judgeAll (cI cZ cQ : ClassId) {u0 u1 u2 u3 u4 u5 u6 u7 u8 p0 p1 h0 a1 a2 a3 a4 : Nat} (S0 R0 : cL) (S1 R1 : cP) : (wL cI cZ u0 u1 u2 u3 u4 u5 u6 u7 u8 R0 ++ wP cI cZ p0 p1 h0 a1 a2 a3 a4 R1 : va_W).map Prod.fst = (wL cI cZ u0 u1 u2 u3 u4 u5 u6 u7 u8 S0 ++ wP cI cZ p0 p1 h0 a1 a2 a3 a4 S1 : va_W).map Prod.fst := rfl
theorem hU_B_told_54 (cI cZ cQ : ClassId) (q0 q1 q2 q3 q4 q5 q6 q7 q8 q9 q10 q11 q12 q13 q14 q15 q16 q17 : Nat) (S0 : (Nat → Option Nat)) (S1 : cL) (S2 : cP) (R1 : cP) : vz_put (wB cI cZ cQ q0 q1 q2 S0 ++ wL cI cZ q2 q3 q4 q5 q6 q7 q8 q9 q10 S1 ++ wP cI cZ q11 q12 q13 q14 q15 q16 q17 S2 : va_W) [2, 3, 4, 5, 6, 7, 8, 9, 10, 11, 12, 13, 14, 15, 16, 17] (wL cI cZ q2 q3 q4 q5 q6 q7 q8 q9 q10 S1 ++ wP cI cZ q11 q12 q13 q14 q15 q16 q17 R1 : va_W) = wB cI cZ cQ q0 q1 q2 S0 ++ wL cI cZ q2 q3 q4 q5 q6 q7 q8 q9 q10 S1 ++ wP cI cZ q11 q12 q13 q14 q15 q16 q17 R1 := (show vz_put ([(q0, .inr (3, [.ref q2, .ref q1])), (q1, .inl (cQ, 4, .inr (.inr (.inr (.inr S0))))), (q2, .inr (1, [.ref q3, .ref q4, .ref q5, .ref q6, .ref q7, .ref q8, .ref q9, .ref q10, .int S1.2.2.2.2.2.2.2.2.1, .int S1.2.2.2.2.2.2.2.2.2])), (q3, .inl (cI, 301, .inl S1.1)), (q4, .inl (cI, 301, .inl S1.2.1)), (q5, .inl (cI, 301, .inl S1.2.2.1)), (q6, .inl (cI, 301, .inl S1.2.2.2.1)), (q7, .inl (cI, 301, .inl S1.2.2.2.2.1)), (q8, .inl (cI, 301, .inl S1.2.2.2.2.2.1)), (q9, .inl (cI, 301, .inl S1.2.2.2.2.2.2.1)), (q10, .inl (cI, 300, .inl S1.2.2.2.2.2.2.2.1)), (q11, .inr (2, [.ref q12, .ref q13, .int S2.2.2.1, .int S2.2.2.2.1, .int S2.2.2.2.2])), (q12, .inl (cI, 301, .inl S2.1)), (q13, .inr (0, [.ref q14, .ref q15, .ref q16, .ref q17, .int S2.2.1.2.2.2.2])), (q14, .inl (cZ, 40, .inl S2.2.1.1)), (q15, .inl (cI, 40, .inl S2.2.1.2.1)), (q16, .inl (cI, 40, .inl S2.2.1.2.2.1)), (q17, .inl (cI, 40, .inl S2.2.1.2.2.2.1))] : va_W) [2, 3, 4, 5, 6, 7, 8, 9, 10, 11, 12, 13, 14, 15, 16, 17] ([(q2, .inr (1, [.ref q3, .ref q4, .ref q5, .ref q6, .ref q7, .ref q8, .ref q9, .ref q10, .int S1.2.2.2.2.2.2.2.2.1, .int S1.2.2.2.2.2.2.2.2.2])), (q3, .inl (cI, 301, .inl S1.1)), (q4, .inl (cI, 301, .inl S1.2.1)), (q5, .inl (cI, 301, .inl S1.2.2.1)), (q6, .inl (cI, 301, .inl S1.2.2.2.1)), (q7, .inl (cI, 301, .inl S1.2.2.2.2.1)), (q8, .inl (cI, 301, .inl S1.2.2.2.2.2.1)), (q9, .inl (cI, 301, .inl S1.2.2.2.2.2.2.1)), (q10, .inl (cI, 300, .inl S1.2.2.2.2.2.2.2.1)), (q11, .inr (2, [.ref q12, .ref q13, .int R1.2.2.1, .int R1.2.2.2.1, .int R1.2.2.2.2])), (q12, .inl (cI, 301, .inl R1.1)), (q13, .inr (0, [.ref q14, .ref q15, .ref q16, .ref q17, .int R1.2.1.2.2.2.2])), (q14, .inl (cZ, 40, .inl R1.2.1.1)), (q15, .inl (cI, 40, .inl R1.2.1.2.1)), (q16, .inl (cI, 40, .inl R1.2.1.2.2.1)), (q17, .inl (cI, 40, .inl R1.2.1.2.2.2.1))] : va_W) = [(q0, .inr (3, [.ref q2, .ref q1])), (q1, .inl (cQ, 4, .inr (.inr (.inr (.inr S0))))), (q2, .inr (1, [.ref q3, .ref q4, .ref q5, .ref q6, .ref q7, .ref q8, .ref q9, .ref q10, .int S1.2.2.2.2.2.2.2.2.1, .int S1.2.2.2.2.2.2.2.2.2])), (q3, .inl (cI, 301, .inl S1.1)), (q4, .inl (cI, 301, .inl S1.2.1)), (q5, .inl (cI, 301, .inl S1.2.2.1)), (q6, .inl (cI, 301, .inl S1.2.2.2.1)), (q7, .inl (cI, 301, .inl S1.2.2.2.2.1)), (q8, .inl (cI, 301, .inl S1.2.2.2.2.2.1)), (q9, .inl (cI, 301, .inl S1.2.2.2.2.2.2.1)), (q10, .inl (cI, 300, .inl S1.2.2.2.2.2.2.2.1)), (q11, .inr (2, [.ref q12, .ref q13, .int R1.2.2.1, .int R1.2.2.2.1, .int R1.2.2.2.2])), (q12, .inl (cI, 301, .inl R1.1)), (q13, .inr (0, [.ref q14, .ref q15, .ref q16, .ref q17, .int R1.2.1.2.2.2.2])), (q14, .inl (cZ, 40, .inl R1.2.1.1)), (q15, .inl (cI, 40, .inl R1.2.1.2.1)), (q16, .inl (cI, 40, .inl R1.2.1.2.2.1)), (q17, .inl (cI, 40, .inl R1.2.1.2.2.2.1))] from rfl).trans rfl
theorem hC_B_told_43 (cI cZ cQ : ClassId) (q0 q1 q2 q3 q4 q5 q6 q7 q8 q9 q10 q11 q12 q13 q14 q15 q16 q17 : Nat) (S0 : (Nat → Option Nat)) (S1 : cL) (S2 : cP) : ([2, 3, 4, 5, 6, 7, 8, 9, 10, 11, 12, 13, 14, 15, 16, 17] : List Nat).map (fun i => (wB cI cZ cQ q0 q1 q2 S0 ++ wL cI cZ q2 q3 q4 q5 q6 q7 q8 q9 q10 S1 ++ wP cI cZ q11 q12 q13 q14 q15 q16 q17 S2 : va_W)[i]?) = (wL cI cZ q2 q3 q4 q5 q6 q7 q8 q9 q10 S1 ++ wP cI cZ q11 q12 q13 q14 q15 q16 q17 S2 : va_W).map some := rfl
theorem hU_B_told_43 (cI cZ cQ : ClassId) (q0 q1 q2 q3 q4 q5 q6 q7 q8 q9 q10 q11 q12 q13 q14 q15 q16 q17 : Nat) (S0 : (Nat → Option Nat)) (S1 : cL) (S2 : cP) (R1 : cP) : vz_put (wB cI cZ cQ q0 q1 q2 S0 ++ wL cI cZ q2 q3 q4 q5 q6 q7 q8 q9 q10 S1 ++ wP cI cZ q11 q12 q13 q14 q15 q16 q17 S2 : va_W) [2, 3, 4, 5, 6, 7, 8, 9, 10, 11, 12, 13, 14, 15, 16, 17] (wL cI cZ q2 q3 q4 q5 q6 q7 q8 q9 q10 S1 ++ wP cI cZ q11 q12 q13 q14 q15 q16 q17 R1 : va_W) = wB cI cZ cQ q0 q1 q2 S0 ++ wL cI cZ q2 q3 q4 q5 q6 q7 q8 q9 q10 S1 ++ wP cI cZ q11 q12 q13 q14 q15 q16 q17 R1 := (show vz_put ([(q0, .inr (3, [.ref q2, .ref q1])), (q1, .inl (cQ, 4, .inr (.inr (.inr (.inr S0))))), (q2, .inr (1, [.ref q3, .ref q4, .ref q5, .ref q6, .ref q7, .ref q8, .ref q9, .ref q10, .int S1.2.2.2.2.2.2.2.2.1, .int S1.2.2.2.2.2.2.2.2.2])), (q3, .inl (cI, 301, .inl S1.1)), (q4, .inl (cI, 301, .inl S1.2.1)), (q5, .inl (cI, 301, .inl S1.2.2.1)), (q6, .inl (cI, 301, .inl S1.2.2.2.1)), (q7, .inl (cI, 301, .inl S1.2.2.2.2.1)), (q8, .inl (cI, 301, .inl S1.2.2.2.2.2.1)), (q9, .inl (cI, 301, .inl S1.2.2.2.2.2.2.1)), (q10, .inl (cI, 300, .inl S1.2.2.2.2.2.2.2.1)), (q11, .inr (2, [.ref q12, .ref q13, .int S2.2.2.1, .int S2.2.2.2.1, .int S2.2.2.2.2])), (q12, .inl (cI, 301, .inl S2.1)), (q13, .inr (0, [.ref q14, .ref q15, .ref q16, .ref q17, .int S2.2.1.2.2.2.2])), (q14, .inl (cZ, 40, .inl S2.2.1.1)), (q15, .inl (cI, 40, .inl S2.2.1.2.1)), (q16, .inl (cI, 40, .inl S2.2.1.2.2.1)), (q17, .inl (cI, 40, .inl S2.2.1.2.2.2.1))] : va_W) [2, 3, 4, 5, 6, 7, 8, 9, 10, 11, 12, 13, 14, 15, 16, 17] ([(q2, .inr (1, [.ref q3, .ref q4, .ref q5, .ref q6, .ref q7, .ref q8, .ref q9, .ref q10, .int S1.2.2.2.2.2.2.2.2.1, .int S1.2.2.2.2.2.2.2.2.2])), (q3, .inl (cI, 301, .inl S1.1)), (q4, .inl (cI, 301, .inl S1.2.1)), (q5, .inl (cI, 301, .inl S1.2.2.1)), (q6, .inl (cI, 301, .inl S1.2.2.2.1)), (q7, .inl (cI, 301, .inl S1.2.2.2.2.1)), (q8, .inl (cI, 301, .inl S1.2.2.2.2.2.1)), (q9, .inl (cI, 301, .inl S1.2.2.2.2.2.2.1)), (q10, .inl (cI, 300, .inl S1.2.2.2.2.2.2.2.1)), (q11, .inr (2, [.ref q12, .ref q13, .int R1.2.2.1, .int R1.2.2.2.1, .int R1.2.2.2.2])), (q12, .inl (cI, 301, .inl R1.1)), (q13, .inr (0, [.ref q14, .ref q15, .ref q16, .ref q17, .int R1.2.1.2.2.2.2])), (q14, .inl (cZ, 40, .inl R1.2.1.1)), (q15, .inl (cI, 40, .inl R1.2.1.2.1)), (q16, .inl (cI, 40, .inl R1.2.1.2.2.1)), (q17, .inl (cI, 40, .inl R1.2.1.2.2.2.1))] : va_W) = [(q0, .inr (3, [.ref q2, .ref q1])), (q1, .inl (cQ, 4, .inr (.inr (.inr (.inr S0))))), (q2, .inr (1, [.ref q3, .ref q4, .ref q5, .ref q6, .ref q7, .ref q8, .ref q9, .ref q10, .int S1.2.2.2.2.2.2.2.2.1, .int S1.2.2.2.2.2.2.2.2.2])), (q3, .inl (cI, 301, .inl S1.1)), (q4, .inl (cI, 301, .inl S1.2.1)), (q5, .inl (cI, 301, .inl S1.2.2.1)), (q6, .inl (cI, 301, .inl S1.2.2.2.1)), (q7, .inl (cI, 301, .inl S1.2.2.2.2.1)), (q8, .inl (cI, 301, .inl S1.2.2.2.2.2.1)), (q9, .inl (cI, 301, .inl S1.2.2.2.2.2.2.1)), (q10, .inl (cI, 300, .inl S1.2.2.2.2.2.2.2.1)), (q11, .inr (2, [.ref q12, .ref q13, .int R1.2.2.1, .int R1.2.2.2.1, .int R1.2.2.2.2])), (q12, .inl (cI, 301, .inl R1.1)), (q13, .inr (0, [.ref q14, .ref q15, .ref q16, .ref q17, .int R1.2.1.2.2.2.2])), (q14, .inl (cZ, 40, .inl R1.2.1.1)), (q15, .inl (cI, 40, .inl R1.2.1.2.1)), (q16, .inl (cI, 40, .inl R1.2.1.2.2.1)), (q17, .inl (cI, 40, .inl R1.2.1.2.2.2.1))] from rfl).trans rfl
def m_B_told (L : cL) (P : cP) (x1 : Int32) (x2 : Int32) : Int32 × cP := (if (m_P_learn L P x2).2.2.2.2 = 1 then (if (L.1 x2.toNatClampNeg) = 4 then (x2, (m_P_judgeAll L (m_P_learn L P x2))) else (x2, (m_P_judge L (m_P_learn L P x2) x2))) else (x2, (m_P_judgeAll L (m_P_learn L P x2))))
set_option maxHeartbeats 1000000 in
set_option maxRecDepth 100000 in
theorem c_B_told (l : Launch) (dC : Nat → ClassId) (dI : Nat → Nat → Nat) (cI cZ cQ : ClassId) (b0 : Nat) (b1 : Nat) (F : Nat → Option Nat) (u0 : Nat) (u1 : Nat) (u2 : Nat) (u3 : Nat) (u4 : Nat) (u5 : Nat) (u6 : Nat) (u7 : Nat) (u8 : Nat) (L : cL) (p0 : Nat) (p1 : Nat) (h0 : Nat) (a1 : Nat) (a2 : Nat) (a3 : Nat) (a4 : Nat) (P : cP) (x1 : Int32) (x2 : Int32) (hF : F x1.toNatClampNeg = some p0) (h1 : 0 ≤ x1.toInt ∧ x1.toInt < 4) (hk : okTold L P x2) : vz_C l (dC, dI) classes [(cI, .int), (cZ, .boolean), (cQ, .object "BinTrees$Person")] y_B_told (Cond.code y_B_told b_B_told 4 (some .int) :: vz_tbl) ({ frames := 5, cells := 0, slots := 0, locals := 118 }) [.ref b0, .int x1, .int x2] (wB cI cZ cQ b0 b1 u0 F ++ wL cI cZ u0 u1 u2 u3 u4 u5 u6 u7 u8 L ++ wP cI cZ p0 p1 h0 a1 a2 a3 a4 P) (some (.int ((m_B_told L P x1 x2).1))) (wB cI cZ cQ b0 b1 u0 F ++ wL cI cZ u0 u1 u2 u3 u4 u5 u6 u7 u8 L ++ wP cI cZ p0 p1 h0 a1 a2 a3 a4 ((m_B_told L P x1 x2).2)) := by
  generalize hres : (m_B_told L P x1 x2) = RES
  refine vz_C.of (by decide) (Nat.le_of_ble_eq_true rfl) ?_
  intro p e s m below meth c ls E hl hK hP hD hS
  obtain ⟨hx, hb, hr, hml, hown, hT, hlocks⟩ := E
  obtain ⟨Q, hQ⟩ : ∃ Q, Q = MQ below (vz_Q (dC, dI) classes (wB cI cZ cQ b0 b1 u0 F ++ wL cI cZ u0 u1 u2 u3 u4 u5 u6 u7 u8 L ++ wP cI cZ p0 p1 h0 a1 a2 a3 a4 P) (some (.int RES.1)) (wB cI cZ cQ b0 b1 u0 F ++ wL cI cZ u0 u1 u2 u3 u4 u5 u6 u7 u8 L ++ wP cI cZ p0 p1 h0 a1 a2 a3 a4 RES.2)) ([.ref b0, .int x1, .int x2] : List Value).toArray s 0 0 (vz_A (wB cI cZ cQ b0 b1 u0 F ++ wL cI cZ u0 u1 u2 u3 u4 u5 u6 u7 u8 L ++ wP cI cZ p0 p1 h0 a1 a2 a3 a4 P)) := ⟨_, rfl⟩
  rw [← hQ]
  have hl : lv_has ls 4 [(0, .ref b0), (1, .int x1), (2, .int x2)] := hl
  have T0 := ti_0
  have T1 := ti_1
  have Tm := ti_m1
  have T8 := ti_8
  have T39 := ti_39
  have T40 := ti_40
  have T4 := ti_4
  have T300 := ti_300
  obtain ⟨hok, hrow, hL, J, hJ0, hJk⟩ := hk
  have h2 := hrow.1
  have hS0 := hS
  refine lv_aload_n hx hb d_B_told_0 rfl (lv_at hl 0 rfl) ?_
  refine va_get (D := (dC, dI)) (ci := 3) (v := .ref b1) (C := R_B) (T := F_B) (N := 2) hx hb hT i_B hown hK hP 0 rfl rfl 1 (by decide) (hT _ kw_129) (fun _ h9 => h9) rfl d_B_told_1 ?_
  refine lv_iload_n hx hb d_B_told_4 rfl (lv_at hl 1 rfl) ?_
  refine va_aldq hx hb hK hP 1 2 rfl rfl (ti_vp (by omega) (by omega)) d_B_told_5 ?_
  rw [show va_rf (F x1.toNatClampNeg) = .ref p0 from by rw [hF]; rfl]
  refine lv_astore_n (lv' := [(3, .ref p0), (0, .ref b0), (1, .int x1), (2, .int x2)]) hx hb d_B_told_6 rfl hl (by decide) rfl (fun ls hl => ?_)
  refine lv_aload_n hx hb d_B_told_7 rfl (lv_at hl 0 rfl) ?_
  refine lv_aload_n hx hb d_B_told_8 rfl (lv_at hl 1 rfl) ?_
  refine va_get (D := (dC, dI)) (ci := 3) (v := .ref u0) (C := R_B) (T := F_B) (N := 2) hx hb hT i_B hown hK hP 0 rfl rfl 0 (by decide) (hT _ kw_128) (fun _ h9 => h9) rfl d_B_told_9 ?_
  refine lv_iload_n hx hb d_B_told_12 rfl (lv_at hl 3 rfl) ?_
  have hc := c_P_learn l dC dI cI cZ cQ u0 u1 u2 u3 u4 u5 u6 u7 u8 L p0 p1 h0 a1 a2 a3 a4 P x2 (hL.1) (hL.2.1) (h2) (hrow.2.2.2.2)
  generalize hg_13 : (m_P_learn L P x2) = g_13 at hc
  refine vz_callV (As := [.ref u0, .int x2]) (rest := []) ⟨hx, hb, hml, hown, hT⟩ hc (vz_goodV kw_162 kw_163 kw_164 kw_3 kw_165) ⟨rfl, hd_P_learn⟩ ⟨⟨rfl, rfl⟩, Nat.le_of_ble_eq_true rfl, Nat.le_of_ble_eq_true rfl⟩ hK hP hD hS [2, 3, 4, 5, 6, 7, 8, 9, 10, 11, 12, 13, 14, 15, 16, 17] rfl (hC_B_told_13 cI cZ cQ b0 b1 u0 u1 u2 u3 u4 u5 u6 u7 u8 p0 p1 h0 a1 a2 a3 a4 F L P) (hF_P_learn cI cZ cQ _ _ _ _) 9 2 rfl rfl rfl rfl hl.1 rfl (Nat.le_of_ble_eq_true rfl) ⟨Nat.zero_le _, Nat.zero_le _⟩ d_B_told_13 (fun H locs hP hD hS => ?_)
  have hP : va_P (dC, dI) classes (wB cI cZ cQ b0 b1 u0 F ++ wL cI cZ u0 u1 u2 u3 u4 u5 u6 u7 u8 L ++ wP cI cZ p0 p1 h0 a1 a2 a3 a4 g_13) H := vz_reP (hU_B_told_13 cI cZ cQ b0 b1 u0 u1 u2 u3 u4 u5 u6 u7 u8 p0 p1 h0 a1 a2 a3 a4 F L P g_13) hP
  have hD : va_D (vz_A (wB cI cZ cQ b0 b1 u0 F ++ wL cI cZ u0 u1 u2 u3 u4 u5 u6 u7 u8 L ++ wP cI cZ p0 p1 h0 a1 a2 a3 a4 P)) (wB cI cZ cQ b0 b1 u0 F ++ wL cI cZ u0 u1 u2 u3 u4 u5 u6 u7 u8 L ++ wP cI cZ p0 p1 h0 a1 a2 a3 a4 g_13) := vz_reD (hU_B_told_13 cI cZ cQ b0 b1 u0 u1 u2 u3 u4 u5 u6 u7 u8 p0 p1 h0 a1 a2 a3 a4 F L P g_13) hD
  have ok1 : okT g_13.2.1 := by rw [← hg_13, learn_tree]; exact hok
  refine W.eq (g2 := F0 m 16 ls []) rfl ?_
  refine lv_aload_n hx hb d_B_told_16 rfl (lv_at hl 0 rfl) ?_
  refine va_get (D := (dC, dI)) (ci := 2) (v := .int g_13.2.2.2.2) (C := R_P) (T := F_P) (N := 5) hx hb hT i_P hown hK hP 11 rfl rfl 4 (by decide) (hT _ kw_116) (fun _ h9 => h9) rfl d_B_told_17 ?_
  refine lv_iconst (v := 1) hx hb d_B_told_20 (by decide) ?_
  refine lv_icmp_ne (tgt := 49) hx hb d_B_told_21 (by decide) (fun c_21 => ?_) (fun c_21 => ?_)
  · have z_21 : ¬ g_13.2.2.2.2.toInt = (1 : Int32).toInt := mt Int32.toInt_inj.mp c_21
    refine lv_aload_n hx hb d_B_told_49 rfl (lv_at hl 0 rfl) ?_
    refine lv_aload_n hx hb d_B_told_50 rfl (lv_at hl 1 rfl) ?_
    refine va_get (D := (dC, dI)) (ci := 3) (v := .ref u0) (C := R_B) (T := F_B) (N := 2) hx hb hT i_B hown hK hP 0 rfl rfl 0 (by decide) (hT _ kw_128) (fun _ h9 => h9) rfl d_B_told_51 ?_
    have hc := c_P_judgeAll l dC dI cI cZ cQ u0 u1 u2 u3 u4 u5 u6 u7 u8 L p0 p1 h0 a1 a2 a3 a4 g_13 J (hL.1) (hL.2.1) (by rw [← hg_13]; exact hJ0) (hJk)
    generalize hg_54 : (m_P_judgeAll L g_13) = g_54 at hc
    refine vz_callV (As := [.ref u0]) (rest := []) ⟨hx, hb, hml, hown, hT⟩ hc (vz_goodV kw_217 kw_218 kw_219 kw_3 kw_220) ⟨rfl, hd_P_judgeAll⟩ ⟨⟨rfl, rfl⟩, Nat.le_of_ble_eq_true rfl, Nat.le_of_ble_eq_true rfl⟩ hK hP hD hS [2, 3, 4, 5, 6, 7, 8, 9, 10, 11, 12, 13, 14, 15, 16, 17] rfl (hC_B_told_54 cI cZ cQ b0 b1 u0 u1 u2 u3 u4 u5 u6 u7 u8 p0 p1 h0 a1 a2 a3 a4 F L g_13) (hF_P_judgeAll cI cZ cQ _ _ _ _) 9 2 rfl rfl rfl rfl hl.1 rfl (Nat.le_of_ble_eq_true rfl) ⟨Nat.zero_le _, Nat.zero_le _⟩ d_B_told_54 (fun H locs hP hD hS => ?_)
    have hP : va_P (dC, dI) classes (wB cI cZ cQ b0 b1 u0 F ++ wL cI cZ u0 u1 u2 u3 u4 u5 u6 u7 u8 L ++ wP cI cZ p0 p1 h0 a1 a2 a3 a4 g_54) H := vz_reP (hU_B_told_54 cI cZ cQ b0 b1 u0 u1 u2 u3 u4 u5 u6 u7 u8 p0 p1 h0 a1 a2 a3 a4 F L g_13 g_54) hP
    have hD : va_D (vz_A (wB cI cZ cQ b0 b1 u0 F ++ wL cI cZ u0 u1 u2 u3 u4 u5 u6 u7 u8 L ++ wP cI cZ p0 p1 h0 a1 a2 a3 a4 P)) (wB cI cZ cQ b0 b1 u0 F ++ wL cI cZ u0 u1 u2 u3 u4 u5 u6 u7 u8 L ++ wP cI cZ p0 p1 h0 a1 a2 a3 a4 g_54) := vz_reD (hU_B_told_54 cI cZ cQ b0 b1 u0 u1 u2 u3 u4 u5 u6 u7 u8 p0 p1 h0 a1 a2 a3 a4 F L g_13 g_54) hD
    refine W.eq (g2 := F0 m 57 ls []) rfl ?_
    refine lv_iload_n hx hb d_B_told_57 rfl (lv_at hl 3 rfl) ?_
    rw [m_B_told] at hres
    try rw [hg_13] at hres
    rw [if_neg c_21] at hres
    try rw [hg_54] at hres
    subst hres
    subst hQ
    exact vz_iret hx hb hr hlocks d_B_told_58 hS rfl hP
  · have z_21 : g_13.2.2.2.2.toInt = (1 : Int32).toInt := congrArg Int32.toInt c_21
    refine lv_aload_n hx hb d_B_told_24 rfl (lv_at hl 1 rfl) ?_
    refine va_get (D := (dC, dI)) (ci := 3) (v := .ref u0) (C := R_B) (T := F_B) (N := 2) hx hb hT i_B hown hK hP 0 rfl rfl 0 (by decide) (hT _ kw_128) (fun _ h9 => h9) rfl d_B_told_25 ?_
    refine va_get (D := (dC, dI)) (ci := 1) (v := .ref u1) (C := R_L) (T := F_L) (N := 10) hx hb hT i_L hown hK hP 2 rfl rfl 0 (by decide) (hT _ kw_23) (fun _ h9 => h9) rfl d_B_told_28 ?_
    refine lv_iload_n hx hb d_B_told_31 rfl (lv_at hl 3 rfl) ?_
    refine va_iald hx hb hK hP 3 0 rfl rfl (ti_vp (by omega) (by omega)) d_B_told_32 ?_
    refine lv_iconst (v := 4) hx hb d_B_told_33 (by decide) ?_
    refine lv_icmp_eq (tgt := 49) hx hb d_B_told_34 (by decide) (fun c_34 => ?_) (fun c_34 => ?_)
    · have z_34 : (L.1 x2.toNatClampNeg).toInt = (4 : Int32).toInt := congrArg Int32.toInt c_34
      refine lv_aload_n hx hb d_B_told_49 rfl (lv_at hl 0 rfl) ?_
      refine lv_aload_n hx hb d_B_told_50 rfl (lv_at hl 1 rfl) ?_
      refine va_get (D := (dC, dI)) (ci := 3) (v := .ref u0) (C := R_B) (T := F_B) (N := 2) hx hb hT i_B hown hK hP 0 rfl rfl 0 (by decide) (hT _ kw_128) (fun _ h9 => h9) rfl d_B_told_51 ?_
      have hc := c_P_judgeAll l dC dI cI cZ cQ u0 u1 u2 u3 u4 u5 u6 u7 u8 L p0 p1 h0 a1 a2 a3 a4 g_13 J (hL.1) (hL.2.1) (by rw [← hg_13]; exact hJ0) (hJk)
      generalize hg_54 : (m_P_judgeAll L g_13) = g_54 at hc
      refine vz_callV (As := [.ref u0]) (rest := []) ⟨hx, hb, hml, hown, hT⟩ hc (vz_goodV kw_217 kw_218 kw_219 kw_3 kw_220) ⟨rfl, hd_P_judgeAll⟩ ⟨⟨rfl, rfl⟩, Nat.le_of_ble_eq_true rfl, Nat.le_of_ble_eq_true rfl⟩ hK hP hD hS [2, 3, 4, 5, 6, 7, 8, 9, 10, 11, 12, 13, 14, 15, 16, 17] rfl (hC_B_told_54 cI cZ cQ b0 b1 u0 u1 u2 u3 u4 u5 u6 u7 u8 p0 p1 h0 a1 a2 a3 a4 F L g_13) (hF_P_judgeAll cI cZ cQ _ _ _ _) 9 2 rfl rfl rfl rfl hl.1 rfl (Nat.le_of_ble_eq_true rfl) ⟨Nat.zero_le _, Nat.zero_le _⟩ d_B_told_54 (fun H locs hP hD hS => ?_)
      have hP : va_P (dC, dI) classes (wB cI cZ cQ b0 b1 u0 F ++ wL cI cZ u0 u1 u2 u3 u4 u5 u6 u7 u8 L ++ wP cI cZ p0 p1 h0 a1 a2 a3 a4 g_54) H := vz_reP (hU_B_told_54 cI cZ cQ b0 b1 u0 u1 u2 u3 u4 u5 u6 u7 u8 p0 p1 h0 a1 a2 a3 a4 F L g_13 g_54) hP
      have hD : va_D (vz_A (wB cI cZ cQ b0 b1 u0 F ++ wL cI cZ u0 u1 u2 u3 u4 u5 u6 u7 u8 L ++ wP cI cZ p0 p1 h0 a1 a2 a3 a4 P)) (wB cI cZ cQ b0 b1 u0 F ++ wL cI cZ u0 u1 u2 u3 u4 u5 u6 u7 u8 L ++ wP cI cZ p0 p1 h0 a1 a2 a3 a4 g_54) := vz_reD (hU_B_told_54 cI cZ cQ b0 b1 u0 u1 u2 u3 u4 u5 u6 u7 u8 p0 p1 h0 a1 a2 a3 a4 F L g_13 g_54) hD
      refine W.eq (g2 := F0 m 57 ls []) rfl ?_
      refine lv_iload_n hx hb d_B_told_57 rfl (lv_at hl 3 rfl) ?_
      rw [m_B_told] at hres
      try rw [hg_13] at hres
      rw [if_pos c_21, if_pos c_34] at hres
      try rw [hg_54] at hres
      subst hres
      subst hQ
      exact vz_iret hx hb hr hlocks d_B_told_58 hS rfl hP
    · have z_34 : ¬ (L.1 x2.toNatClampNeg).toInt = (4 : Int32).toInt := mt Int32.toInt_inj.mp c_34
      refine lv_aload_n hx hb d_B_told_37 rfl (lv_at hl 0 rfl) ?_
      refine lv_aload_n hx hb d_B_told_38 rfl (lv_at hl 1 rfl) ?_
      refine va_get (D := (dC, dI)) (ci := 3) (v := .ref u0) (C := R_B) (T := F_B) (N := 2) hx hb hT i_B hown hK hP 0 rfl rfl 0 (by decide) (hT _ kw_128) (fun _ h9 => h9) rfl d_B_told_39 ?_
      refine lv_iload_n hx hb d_B_told_42 rfl (lv_at hl 3 rfl) ?_
      have hc := c_P_judge l dC dI cI cZ cQ u0 u1 u2 u3 u4 u5 u6 u7 u8 L p0 p1 h0 a1 a2 a3 a4 g_13 x2 (ok1) (hrow)
      generalize hg_43 : (m_P_judge L g_13 x2) = g_43 at hc
      refine vz_callV (As := [.ref u0, .int x2]) (rest := []) ⟨hx, hb, hml, hown, hT⟩ hc (vz_goodV kw_177 kw_178 kw_179 kw_3 kw_180) ⟨rfl, hd_P_judge⟩ ⟨⟨rfl, rfl⟩, Nat.le_of_ble_eq_true rfl, Nat.le_of_ble_eq_true rfl⟩ hK hP hD hS [2, 3, 4, 5, 6, 7, 8, 9, 10, 11, 12, 13, 14, 15, 16, 17] rfl (hC_B_told_43 cI cZ cQ b0 b1 u0 u1 u2 u3 u4 u5 u6 u7 u8 p0 p1 h0 a1 a2 a3 a4 F L g_13) (hF_P_judge cI cZ cQ _ _ _ _) 9 2 rfl rfl rfl rfl hl.1 rfl (Nat.le_of_ble_eq_true rfl) ⟨Nat.zero_le _, Nat.zero_le _⟩ d_B_told_43 (fun H locs hP hD hS => ?_)
      have hP : va_P (dC, dI) classes (wB cI cZ cQ b0 b1 u0 F ++ wL cI cZ u0 u1 u2 u3 u4 u5 u6 u7 u8 L ++ wP cI cZ p0 p1 h0 a1 a2 a3 a4 g_43) H := vz_reP (hU_B_told_43 cI cZ cQ b0 b1 u0 u1 u2 u3 u4 u5 u6 u7 u8 p0 p1 h0 a1 a2 a3 a4 F L g_13 g_43) hP
      have hD : va_D (vz_A (wB cI cZ cQ b0 b1 u0 F ++ wL cI cZ u0 u1 u2 u3 u4 u5 u6 u7 u8 L ++ wP cI cZ p0 p1 h0 a1 a2 a3 a4 P)) (wB cI cZ cQ b0 b1 u0 F ++ wL cI cZ u0 u1 u2 u3 u4 u5 u6 u7 u8 L ++ wP cI cZ p0 p1 h0 a1 a2 a3 a4 g_43) := vz_reD (hU_B_told_43 cI cZ cQ b0 b1 u0 u1 u2 u3 u4 u5 u6 u7 u8 p0 p1 h0 a1 a2 a3 a4 F L g_13 g_43) hD
      refine W.eq (g2 := F0 m 46 ls []) rfl ?_
      refine lv_goto (tgt := 57) hx hb d_B_told_46 (by decide) ?_
      refine lv_iload_n hx hb d_B_told_57 rfl (lv_at hl 3 rfl) ?_
      rw [m_B_told] at hres
      try rw [hg_13] at hres
      rw [if_pos c_21, if_neg c_34] at hres
      try rw [hg_43] at hres
      subst hres
      subst hQ
      exact vz_iret hx hb hr hlocks d_B_told_58 hS rfl hP
