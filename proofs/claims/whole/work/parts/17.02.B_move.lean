theorem d_B_move_0 : decode b_B_move 0 = .ok (.aload_n 0, 1) := by decide +kernel
theorem d_B_move_1 : decode b_B_move 1 = .ok (.iload_n 1, 1) := by decide +kernel
theorem d_B_move_2 : decode b_B_move 2 = .ok (.invokevirtual 23, 3) := by decide +kernel
theorem d_B_move_5 : decode b_B_move 5 = .ok (.ifCond .eq 19, 3) := by decide +kernel
theorem d_B_move_8 : decode b_B_move 8 = .ok (.aload_n 0, 1) := by decide +kernel
theorem d_B_move_9 : decode b_B_move 9 = .ok (.iload_n 2, 1) := by decide +kernel
theorem d_B_move_10 : decode b_B_move 10 = .ok (.invokevirtual 42, 3) := by decide +kernel
theorem d_B_move_13 : decode b_B_move 13 = .ok (.ifCond .eq 11, 3) := by decide +kernel
theorem d_B_move_16 : decode b_B_move 16 = .ok (.aload_n 0, 1) := by decide +kernel
theorem d_B_move_17 : decode b_B_move 17 = .ok (.iload_n 3, 1) := by decide +kernel
theorem d_B_move_18 : decode b_B_move 18 = .ok (.invokevirtual 45, 3) := by decide +kernel
theorem d_B_move_21 : decode b_B_move 21 = .ok (.ifCond .ne 5, 3) := by decide +kernel
theorem d_B_move_24 : decode b_B_move 24 = .ok (.iconst (-1), 1) := by decide +kernel
theorem d_B_move_25 : decode b_B_move 25 = .ok (.ireturn, 1) := by decide +kernel
theorem d_B_move_26 : decode b_B_move 26 = .ok (.iload 4, 2) := by decide +kernel
theorem d_B_move_28 : decode b_B_move 28 = .ok (.iconst (-1), 1) := by decide +kernel
theorem d_B_move_29 : decode b_B_move 29 = .ok (.if_icmp .eq 14, 3) := by decide +kernel
theorem d_B_move_32 : decode b_B_move 32 = .ok (.aload_n 0, 1) := by decide +kernel
theorem d_B_move_33 : decode b_B_move 33 = .ok (.iload 4, 2) := by decide +kernel
theorem d_B_move_35 : decode b_B_move 35 = .ok (.invokevirtual 45, 3) := by decide +kernel
theorem d_B_move_38 : decode b_B_move 38 = .ok (.ifCond .ne 5, 3) := by decide +kernel
theorem d_B_move_41 : decode b_B_move 41 = .ok (.iconst (-1), 1) := by decide +kernel
theorem d_B_move_42 : decode b_B_move 42 = .ok (.ireturn, 1) := by decide +kernel
theorem d_B_move_43 : decode b_B_move 43 = .ok (.aload_n 0, 1) := by decide +kernel
theorem d_B_move_44 : decode b_B_move 44 = .ok (.iload_n 1, 1) := by decide +kernel
theorem d_B_move_45 : decode b_B_move 45 = .ok (.aload_n 0, 1) := by decide +kernel
theorem d_B_move_46 : decode b_B_move 46 = .ok (.getfield 10, 3) := by decide +kernel
theorem d_B_move_49 : decode b_B_move 49 = .ok (.iconst 1, 1) := by decide +kernel
theorem d_B_move_50 : decode b_B_move 50 = .ok (.iload_n 1, 1) := by decide +kernel
theorem d_B_move_51 : decode b_B_move 51 = .ok (.aload_n 0, 1) := by decide +kernel
theorem d_B_move_52 : decode b_B_move 52 = .ok (.getfield 18, 3) := by decide +kernel
theorem d_B_move_55 : decode b_B_move 55 = .ok (.iload_n 1, 1) := by decide +kernel
theorem d_B_move_56 : decode b_B_move 56 = .ok (.aaload, 1) := by decide +kernel
theorem d_B_move_57 : decode b_B_move 57 = .ok (.getfield 31, 3) := by decide +kernel
theorem d_B_move_60 : decode b_B_move 60 = .ok (.iconst 1, 1) := by decide +kernel
theorem d_B_move_61 : decode b_B_move 61 = .ok (.iadd, 1) := by decide +kernel
theorem d_B_move_62 : decode b_B_move 62 = .ok (.iload_n 2, 1) := by decide +kernel
theorem d_B_move_63 : decode b_B_move 63 = .ok (.iload_n 3, 1) := by decide +kernel
theorem d_B_move_64 : decode b_B_move 64 = .ok (.iload 4, 2) := by decide +kernel
theorem d_B_move_66 : decode b_B_move 66 = .ok (.invokevirtual 34, 3) := by decide +kernel
theorem d_B_move_69 : decode b_B_move 69 = .ok (.invokevirtual 38, 3) := by decide +kernel
theorem d_B_move_72 : decode b_B_move 72 = .ok (.ireturn, 1) := by decide +kernel
theorem hC_B_move_2 (cI cZ cQ : ClassId) (q0 q1 q2 q3 q4 q5 q6 q7 q8 q9 q10 q11 q12 q13 q14 q15 q16 q17 : Nat) (S0 : (Nat → Option Nat)) (S1 : cL) (S2 : cP) : ([0, 1, 2, 3, 4, 5, 6, 7, 8, 9, 10] : List Nat).map (fun i => (wB cI cZ cQ q0 q1 q2 S0 ++ wL cI cZ q2 q3 q4 q5 q6 q7 q8 q9 q10 S1 ++ wP cI cZ q11 q12 q13 q14 q15 q16 q17 S2 : va_W)[i]?) = (wB cI cZ cQ q0 q1 q2 S0 ++ wL cI cZ q2 q3 q4 q5 q6 q7 q8 q9 q10 S1 : va_W).map some := rfl
theorem hU_B_move_2 (cI cZ cQ : ClassId) (q0 q1 q2 q3 q4 q5 q6 q7 q8 q9 q10 q11 q12 q13 q14 q15 q16 q17 : Nat) (S0 : (Nat → Option Nat)) (S1 : cL) (S2 : cP)  : vz_put (wB cI cZ cQ q0 q1 q2 S0 ++ wL cI cZ q2 q3 q4 q5 q6 q7 q8 q9 q10 S1 ++ wP cI cZ q11 q12 q13 q14 q15 q16 q17 S2 : va_W) [0, 1, 2, 3, 4, 5, 6, 7, 8, 9, 10] (wB cI cZ cQ q0 q1 q2 S0 ++ wL cI cZ q2 q3 q4 q5 q6 q7 q8 q9 q10 S1 : va_W) = wB cI cZ cQ q0 q1 q2 S0 ++ wL cI cZ q2 q3 q4 q5 q6 q7 q8 q9 q10 S1 ++ wP cI cZ q11 q12 q13 q14 q15 q16 q17 S2 := (show vz_put ([(q0, .inr (3, [.ref q2, .ref q1])), (q1, .inl (cQ, 4, .inr (.inr (.inr (.inr S0))))), (q2, .inr (1, [.ref q3, .ref q4, .ref q5, .ref q6, .ref q7, .ref q8, .ref q9, .ref q10, .int S1.2.2.2.2.2.2.2.2.1, .int S1.2.2.2.2.2.2.2.2.2])), (q3, .inl (cI, 301, .inl S1.1)), (q4, .inl (cI, 301, .inl S1.2.1)), (q5, .inl (cI, 301, .inl S1.2.2.1)), (q6, .inl (cI, 301, .inl S1.2.2.2.1)), (q7, .inl (cI, 301, .inl S1.2.2.2.2.1)), (q8, .inl (cI, 301, .inl S1.2.2.2.2.2.1)), (q9, .inl (cI, 301, .inl S1.2.2.2.2.2.2.1)), (q10, .inl (cI, 300, .inl S1.2.2.2.2.2.2.2.1)), (q11, .inr (2, [.ref q12, .ref q13, .int S2.2.2.1, .int S2.2.2.2.1, .int S2.2.2.2.2])), (q12, .inl (cI, 301, .inl S2.1)), (q13, .inr (0, [.ref q14, .ref q15, .ref q16, .ref q17, .int S2.2.1.2.2.2.2])), (q14, .inl (cZ, 40, .inl S2.2.1.1)), (q15, .inl (cI, 40, .inl S2.2.1.2.1)), (q16, .inl (cI, 40, .inl S2.2.1.2.2.1)), (q17, .inl (cI, 40, .inl S2.2.1.2.2.2.1))] : va_W) [0, 1, 2, 3, 4, 5, 6, 7, 8, 9, 10] ([(q0, .inr (3, [.ref q2, .ref q1])), (q1, .inl (cQ, 4, .inr (.inr (.inr (.inr S0))))), (q2, .inr (1, [.ref q3, .ref q4, .ref q5, .ref q6, .ref q7, .ref q8, .ref q9, .ref q10, .int S1.2.2.2.2.2.2.2.2.1, .int S1.2.2.2.2.2.2.2.2.2])), (q3, .inl (cI, 301, .inl S1.1)), (q4, .inl (cI, 301, .inl S1.2.1)), (q5, .inl (cI, 301, .inl S1.2.2.1)), (q6, .inl (cI, 301, .inl S1.2.2.2.1)), (q7, .inl (cI, 301, .inl S1.2.2.2.2.1)), (q8, .inl (cI, 301, .inl S1.2.2.2.2.2.1)), (q9, .inl (cI, 301, .inl S1.2.2.2.2.2.2.1)), (q10, .inl (cI, 300, .inl S1.2.2.2.2.2.2.2.1))] : va_W) = [(q0, .inr (3, [.ref q2, .ref q1])), (q1, .inl (cQ, 4, .inr (.inr (.inr (.inr S0))))), (q2, .inr (1, [.ref q3, .ref q4, .ref q5, .ref q6, .ref q7, .ref q8, .ref q9, .ref q10, .int S1.2.2.2.2.2.2.2.2.1, .int S1.2.2.2.2.2.2.2.2.2])), (q3, .inl (cI, 301, .inl S1.1)), (q4, .inl (cI, 301, .inl S1.2.1)), (q5, .inl (cI, 301, .inl S1.2.2.1)), (q6, .inl (cI, 301, .inl S1.2.2.2.1)), (q7, .inl (cI, 301, .inl S1.2.2.2.2.1)), (q8, .inl (cI, 301, .inl S1.2.2.2.2.2.1)), (q9, .inl (cI, 301, .inl S1.2.2.2.2.2.2.1)), (q10, .inl (cI, 300, .inl S1.2.2.2.2.2.2.2.1)), (q11, .inr (2, [.ref q12, .ref q13, .int S2.2.2.1, .int S2.2.2.2.1, .int S2.2.2.2.2])), (q12, .inl (cI, 301, .inl S2.1)), (q13, .inr (0, [.ref q14, .ref q15, .ref q16, .ref q17, .int S2.2.1.2.2.2.2])), (q14, .inl (cZ, 40, .inl S2.2.1.1)), (q15, .inl (cI, 40, .inl S2.2.1.2.1)), (q16, .inl (cI, 40, .inl S2.2.1.2.2.1)), (q17, .inl (cI, 40, .inl S2.2.1.2.2.2.1))] from rfl).trans rfl
theorem hC_B_move_10 (cI cZ cQ : ClassId) (q0 q1 q2 q3 q4 q5 q6 q7 q8 q9 q10 q11 q12 q13 q14 q15 q16 q17 : Nat) (S0 : (Nat → Option Nat)) (S1 : cL) (S2 : cP) : ([0, 1, 2, 3, 4, 5, 6, 7, 8, 9, 10] : List Nat).map (fun i => (wB cI cZ cQ q0 q1 q2 S0 ++ wL cI cZ q2 q3 q4 q5 q6 q7 q8 q9 q10 S1 ++ wP cI cZ q11 q12 q13 q14 q15 q16 q17 S2 : va_W)[i]?) = (wB cI cZ cQ q0 q1 q2 S0 ++ wL cI cZ q2 q3 q4 q5 q6 q7 q8 q9 q10 S1 : va_W).map some := rfl
theorem hF_B_isMade (cI cZ cQ : ClassId) {b0 b1 u0 u1 u2 u3 u4 u5 u6 u7 u8 : Nat} (S0 R0 : (Nat → Option Nat)) (S1 R1 : cL) : (wB cI cZ cQ b0 b1 u0 R0 ++ wL cI cZ u0 u1 u2 u3 u4 u5 u6 u7 u8 R1 : va_W).map Prod.fst = (wB cI cZ cQ b0 b1 u0 S0 ++ wL cI cZ u0 u1 u2 u3 u4 u5 u6 u7 u8 S1 : va_W).map Prod.fst := rfl
theorem hU_B_move_10 (cI cZ cQ : ClassId) (q0 q1 q2 q3 q4 q5 q6 q7 q8 q9 q10 q11 q12 q13 q14 q15 q16 q17 : Nat) (S0 : (Nat → Option Nat)) (S1 : cL) (S2 : cP)  : vz_put (wB cI cZ cQ q0 q1 q2 S0 ++ wL cI cZ q2 q3 q4 q5 q6 q7 q8 q9 q10 S1 ++ wP cI cZ q11 q12 q13 q14 q15 q16 q17 S2 : va_W) [0, 1, 2, 3, 4, 5, 6, 7, 8, 9, 10] (wB cI cZ cQ q0 q1 q2 S0 ++ wL cI cZ q2 q3 q4 q5 q6 q7 q8 q9 q10 S1 : va_W) = wB cI cZ cQ q0 q1 q2 S0 ++ wL cI cZ q2 q3 q4 q5 q6 q7 q8 q9 q10 S1 ++ wP cI cZ q11 q12 q13 q14 q15 q16 q17 S2 := (show vz_put ([(q0, .inr (3, [.ref q2, .ref q1])), (q1, .inl (cQ, 4, .inr (.inr (.inr (.inr S0))))), (q2, .inr (1, [.ref q3, .ref q4, .ref q5, .ref q6, .ref q7, .ref q8, .ref q9, .ref q10, .int S1.2.2.2.2.2.2.2.2.1, .int S1.2.2.2.2.2.2.2.2.2])), (q3, .inl (cI, 301, .inl S1.1)), (q4, .inl (cI, 301, .inl S1.2.1)), (q5, .inl (cI, 301, .inl S1.2.2.1)), (q6, .inl (cI, 301, .inl S1.2.2.2.1)), (q7, .inl (cI, 301, .inl S1.2.2.2.2.1)), (q8, .inl (cI, 301, .inl S1.2.2.2.2.2.1)), (q9, .inl (cI, 301, .inl S1.2.2.2.2.2.2.1)), (q10, .inl (cI, 300, .inl S1.2.2.2.2.2.2.2.1)), (q11, .inr (2, [.ref q12, .ref q13, .int S2.2.2.1, .int S2.2.2.2.1, .int S2.2.2.2.2])), (q12, .inl (cI, 301, .inl S2.1)), (q13, .inr (0, [.ref q14, .ref q15, .ref q16, .ref q17, .int S2.2.1.2.2.2.2])), (q14, .inl (cZ, 40, .inl S2.2.1.1)), (q15, .inl (cI, 40, .inl S2.2.1.2.1)), (q16, .inl (cI, 40, .inl S2.2.1.2.2.1)), (q17, .inl (cI, 40, .inl S2.2.1.2.2.2.1))] : va_W) [0, 1, 2, 3, 4, 5, 6, 7, 8, 9, 10] ([(q0, .inr (3, [.ref q2, .ref q1])), (q1, .inl (cQ, 4, .inr (.inr (.inr (.inr S0))))), (q2, .inr (1, [.ref q3, .ref q4, .ref q5, .ref q6, .ref q7, .ref q8, .ref q9, .ref q10, .int S1.2.2.2.2.2.2.2.2.1, .int S1.2.2.2.2.2.2.2.2.2])), (q3, .inl (cI, 301, .inl S1.1)), (q4, .inl (cI, 301, .inl S1.2.1)), (q5, .inl (cI, 301, .inl S1.2.2.1)), (q6, .inl (cI, 301, .inl S1.2.2.2.1)), (q7, .inl (cI, 301, .inl S1.2.2.2.2.1)), (q8, .inl (cI, 301, .inl S1.2.2.2.2.2.1)), (q9, .inl (cI, 301, .inl S1.2.2.2.2.2.2.1)), (q10, .inl (cI, 300, .inl S1.2.2.2.2.2.2.2.1))] : va_W) = [(q0, .inr (3, [.ref q2, .ref q1])), (q1, .inl (cQ, 4, .inr (.inr (.inr (.inr S0))))), (q2, .inr (1, [.ref q3, .ref q4, .ref q5, .ref q6, .ref q7, .ref q8, .ref q9, .ref q10, .int S1.2.2.2.2.2.2.2.2.1, .int S1.2.2.2.2.2.2.2.2.2])), (q3, .inl (cI, 301, .inl S1.1)), (q4, .inl (cI, 301, .inl S1.2.1)), (q5, .inl (cI, 301, .inl S1.2.2.1)), (q6, .inl (cI, 301, .inl S1.2.2.2.1)), (q7, .inl (cI, 301, .inl S1.2.2.2.2.1)), (q8, .inl (cI, 301, .inl S1.2.2.2.2.2.1)), (q9, .inl (cI, 301, .inl S1.2.2.2.2.2.2.1)), (q10, .inl (cI, 300, .inl S1.2.2.2.2.2.2.2.1)), (q11, .inr (2, [.ref q12, .ref q13, .int S2.2.2.1, .int S2.2.2.2.1, .int S2.2.2.2.2])), (q12, .inl (cI, 301, .inl S2.1)), (q13, .inr (0, [.ref q14, .ref q15, .ref q16, .ref q17, .int S2.2.1.2.2.2.2])), (q14, .inl (cZ, 40, .inl S2.2.1.1)), (q15, .inl (cI, 40, .inl S2.2.1.2.1)), (q16, .inl (cI, 40, .inl S2.2.1.2.2.1)), (q17, .inl (cI, 40, .inl S2.2.1.2.2.2.1))] from rfl).trans rfl
theorem hC_B_move_18 (cI cZ cQ : ClassId) (q0 q1 q2 q3 q4 q5 q6 q7 q8 q9 q10 q11 q12 q13 q14 q15 q16 q17 : Nat) (S0 : (Nat → Option Nat)) (S1 : cL) (S2 : cP) : ([0, 1, 2, 3, 4, 5, 6, 7, 8, 9, 10] : List Nat).map (fun i => (wB cI cZ cQ q0 q1 q2 S0 ++ wL cI cZ q2 q3 q4 q5 q6 q7 q8 q9 q10 S1 ++ wP cI cZ q11 q12 q13 q14 q15 q16 q17 S2 : va_W)[i]?) = (wB cI cZ cQ q0 q1 q2 S0 ++ wL cI cZ q2 q3 q4 q5 q6 q7 q8 q9 q10 S1 : va_W).map some := rfl
theorem hF_B_isObject (cI cZ cQ : ClassId) {b0 b1 u0 u1 u2 u3 u4 u5 u6 u7 u8 : Nat} (S0 R0 : (Nat → Option Nat)) (S1 R1 : cL) : (wB cI cZ cQ b0 b1 u0 R0 ++ wL cI cZ u0 u1 u2 u3 u4 u5 u6 u7 u8 R1 : va_W).map Prod.fst = (wB cI cZ cQ b0 b1 u0 S0 ++ wL cI cZ u0 u1 u2 u3 u4 u5 u6 u7 u8 S1 : va_W).map Prod.fst := rfl
theorem hU_B_move_18 (cI cZ cQ : ClassId) (q0 q1 q2 q3 q4 q5 q6 q7 q8 q9 q10 q11 q12 q13 q14 q15 q16 q17 : Nat) (S0 : (Nat → Option Nat)) (S1 : cL) (S2 : cP)  : vz_put (wB cI cZ cQ q0 q1 q2 S0 ++ wL cI cZ q2 q3 q4 q5 q6 q7 q8 q9 q10 S1 ++ wP cI cZ q11 q12 q13 q14 q15 q16 q17 S2 : va_W) [0, 1, 2, 3, 4, 5, 6, 7, 8, 9, 10] (wB cI cZ cQ q0 q1 q2 S0 ++ wL cI cZ q2 q3 q4 q5 q6 q7 q8 q9 q10 S1 : va_W) = wB cI cZ cQ q0 q1 q2 S0 ++ wL cI cZ q2 q3 q4 q5 q6 q7 q8 q9 q10 S1 ++ wP cI cZ q11 q12 q13 q14 q15 q16 q17 S2 := (show vz_put ([(q0, .inr (3, [.ref q2, .ref q1])), (q1, .inl (cQ, 4, .inr (.inr (.inr (.inr S0))))), (q2, .inr (1, [.ref q3, .ref q4, .ref q5, .ref q6, .ref q7, .ref q8, .ref q9, .ref q10, .int S1.2.2.2.2.2.2.2.2.1, .int S1.2.2.2.2.2.2.2.2.2])), (q3, .inl (cI, 301, .inl S1.1)), (q4, .inl (cI, 301, .inl S1.2.1)), (q5, .inl (cI, 301, .inl S1.2.2.1)), (q6, .inl (cI, 301, .inl S1.2.2.2.1)), (q7, .inl (cI, 301, .inl S1.2.2.2.2.1)), (q8, .inl (cI, 301, .inl S1.2.2.2.2.2.1)), (q9, .inl (cI, 301, .inl S1.2.2.2.2.2.2.1)), (q10, .inl (cI, 300, .inl S1.2.2.2.2.2.2.2.1)), (q11, .inr (2, [.ref q12, .ref q13, .int S2.2.2.1, .int S2.2.2.2.1, .int S2.2.2.2.2])), (q12, .inl (cI, 301, .inl S2.1)), (q13, .inr (0, [.ref q14, .ref q15, .ref q16, .ref q17, .int S2.2.1.2.2.2.2])), (q14, .inl (cZ, 40, .inl S2.2.1.1)), (q15, .inl (cI, 40, .inl S2.2.1.2.1)), (q16, .inl (cI, 40, .inl S2.2.1.2.2.1)), (q17, .inl (cI, 40, .inl S2.2.1.2.2.2.1))] : va_W) [0, 1, 2, 3, 4, 5, 6, 7, 8, 9, 10] ([(q0, .inr (3, [.ref q2, .ref q1])), (q1, .inl (cQ, 4, .inr (.inr (.inr (.inr S0))))), (q2, .inr (1, [.ref q3, .ref q4, .ref q5, .ref q6, .ref q7, .ref q8, .ref q9, .ref q10, .int S1.2.2.2.2.2.2.2.2.1, .int S1.2.2.2.2.2.2.2.2.2])), (q3, .inl (cI, 301, .inl S1.1)), (q4, .inl (cI, 301, .inl S1.2.1)), (q5, .inl (cI, 301, .inl S1.2.2.1)), (q6, .inl (cI, 301, .inl S1.2.2.2.1)), (q7, .inl (cI, 301, .inl S1.2.2.2.2.1)), (q8, .inl (cI, 301, .inl S1.2.2.2.2.2.1)), (q9, .inl (cI, 301, .inl S1.2.2.2.2.2.2.1)), (q10, .inl (cI, 300, .inl S1.2.2.2.2.2.2.2.1))] : va_W) = [(q0, .inr (3, [.ref q2, .ref q1])), (q1, .inl (cQ, 4, .inr (.inr (.inr (.inr S0))))), (q2, .inr (1, [.ref q3, .ref q4, .ref q5, .ref q6, .ref q7, .ref q8, .ref q9, .ref q10, .int S1.2.2.2.2.2.2.2.2.1, .int S1.2.2.2.2.2.2.2.2.2])), (q3, .inl (cI, 301, .inl S1.1)), (q4, .inl (cI, 301, .inl S1.2.1)), (q5, .inl (cI, 301, .inl S1.2.2.1)), (q6, .inl (cI, 301, .inl S1.2.2.2.1)), (q7, .inl (cI, 301, .inl S1.2.2.2.2.1)), (q8, .inl (cI, 301, .inl S1.2.2.2.2.2.1)), (q9, .inl (cI, 301, .inl S1.2.2.2.2.2.2.1)), (q10, .inl (cI, 300, .inl S1.2.2.2.2.2.2.2.1)), (q11, .inr (2, [.ref q12, .ref q13, .int S2.2.2.1, .int S2.2.2.2.1, .int S2.2.2.2.2])), (q12, .inl (cI, 301, .inl S2.1)), (q13, .inr (0, [.ref q14, .ref q15, .ref q16, .ref q17, .int S2.2.1.2.2.2.2])), (q14, .inl (cZ, 40, .inl S2.2.1.1)), (q15, .inl (cI, 40, .inl S2.2.1.2.1)), (q16, .inl (cI, 40, .inl S2.2.1.2.2.1)), (q17, .inl (cI, 40, .inl S2.2.1.2.2.2.1))] from rfl).trans rfl
theorem hC_B_move_66 (cI cZ cQ : ClassId) (q0 q1 q2 q3 q4 q5 q6 q7 q8 q9 q10 q11 q12 q13 q14 q15 q16 q17 : Nat) (S0 : (Nat → Option Nat)) (S1 : cL) (S2 : cP) : ([2, 3, 4, 5, 6, 7, 8, 9, 10] : List Nat).map (fun i => (wB cI cZ cQ q0 q1 q2 S0 ++ wL cI cZ q2 q3 q4 q5 q6 q7 q8 q9 q10 S1 ++ wP cI cZ q11 q12 q13 q14 q15 q16 q17 S2 : va_W)[i]?) = (wL cI cZ q2 q3 q4 q5 q6 q7 q8 q9 q10 S1 : va_W).map some := rfl
theorem hU_B_move_66 (cI cZ cQ : ClassId) (q0 q1 q2 q3 q4 q5 q6 q7 q8 q9 q10 q11 q12 q13 q14 q15 q16 q17 : Nat) (S0 : (Nat → Option Nat)) (S1 : cL) (S2 : cP) (R0 : cL) : vz_put (wB cI cZ cQ q0 q1 q2 S0 ++ wL cI cZ q2 q3 q4 q5 q6 q7 q8 q9 q10 S1 ++ wP cI cZ q11 q12 q13 q14 q15 q16 q17 S2 : va_W) [2, 3, 4, 5, 6, 7, 8, 9, 10] (wL cI cZ q2 q3 q4 q5 q6 q7 q8 q9 q10 R0 : va_W) = wB cI cZ cQ q0 q1 q2 S0 ++ wL cI cZ q2 q3 q4 q5 q6 q7 q8 q9 q10 R0 ++ wP cI cZ q11 q12 q13 q14 q15 q16 q17 S2 := (show vz_put ([(q0, .inr (3, [.ref q2, .ref q1])), (q1, .inl (cQ, 4, .inr (.inr (.inr (.inr S0))))), (q2, .inr (1, [.ref q3, .ref q4, .ref q5, .ref q6, .ref q7, .ref q8, .ref q9, .ref q10, .int S1.2.2.2.2.2.2.2.2.1, .int S1.2.2.2.2.2.2.2.2.2])), (q3, .inl (cI, 301, .inl S1.1)), (q4, .inl (cI, 301, .inl S1.2.1)), (q5, .inl (cI, 301, .inl S1.2.2.1)), (q6, .inl (cI, 301, .inl S1.2.2.2.1)), (q7, .inl (cI, 301, .inl S1.2.2.2.2.1)), (q8, .inl (cI, 301, .inl S1.2.2.2.2.2.1)), (q9, .inl (cI, 301, .inl S1.2.2.2.2.2.2.1)), (q10, .inl (cI, 300, .inl S1.2.2.2.2.2.2.2.1)), (q11, .inr (2, [.ref q12, .ref q13, .int S2.2.2.1, .int S2.2.2.2.1, .int S2.2.2.2.2])), (q12, .inl (cI, 301, .inl S2.1)), (q13, .inr (0, [.ref q14, .ref q15, .ref q16, .ref q17, .int S2.2.1.2.2.2.2])), (q14, .inl (cZ, 40, .inl S2.2.1.1)), (q15, .inl (cI, 40, .inl S2.2.1.2.1)), (q16, .inl (cI, 40, .inl S2.2.1.2.2.1)), (q17, .inl (cI, 40, .inl S2.2.1.2.2.2.1))] : va_W) [2, 3, 4, 5, 6, 7, 8, 9, 10] ([(q2, .inr (1, [.ref q3, .ref q4, .ref q5, .ref q6, .ref q7, .ref q8, .ref q9, .ref q10, .int R0.2.2.2.2.2.2.2.2.1, .int R0.2.2.2.2.2.2.2.2.2])), (q3, .inl (cI, 301, .inl R0.1)), (q4, .inl (cI, 301, .inl R0.2.1)), (q5, .inl (cI, 301, .inl R0.2.2.1)), (q6, .inl (cI, 301, .inl R0.2.2.2.1)), (q7, .inl (cI, 301, .inl R0.2.2.2.2.1)), (q8, .inl (cI, 301, .inl R0.2.2.2.2.2.1)), (q9, .inl (cI, 301, .inl R0.2.2.2.2.2.2.1)), (q10, .inl (cI, 300, .inl R0.2.2.2.2.2.2.2.1))] : va_W) = [(q0, .inr (3, [.ref q2, .ref q1])), (q1, .inl (cQ, 4, .inr (.inr (.inr (.inr S0))))), (q2, .inr (1, [.ref q3, .ref q4, .ref q5, .ref q6, .ref q7, .ref q8, .ref q9, .ref q10, .int R0.2.2.2.2.2.2.2.2.1, .int R0.2.2.2.2.2.2.2.2.2])), (q3, .inl (cI, 301, .inl R0.1)), (q4, .inl (cI, 301, .inl R0.2.1)), (q5, .inl (cI, 301, .inl R0.2.2.1)), (q6, .inl (cI, 301, .inl R0.2.2.2.1)), (q7, .inl (cI, 301, .inl R0.2.2.2.2.1)), (q8, .inl (cI, 301, .inl R0.2.2.2.2.2.1)), (q9, .inl (cI, 301, .inl R0.2.2.2.2.2.2.1)), (q10, .inl (cI, 300, .inl R0.2.2.2.2.2.2.2.1)), (q11, .inr (2, [.ref q12, .ref q13, .int S2.2.2.1, .int S2.2.2.2.1, .int S2.2.2.2.2])), (q12, .inl (cI, 301, .inl S2.1)), (q13, .inr (0, [.ref q14, .ref q15, .ref q16, .ref q17, .int S2.2.1.2.2.2.2])), (q14, .inl (cZ, 40, .inl S2.2.1.1)), (q15, .inl (cI, 40, .inl S2.2.1.2.1)), (q16, .inl (cI, 40, .inl S2.2.1.2.2.1)), (q17, .inl (cI, 40, .inl S2.2.1.2.2.2.1))] from rfl).trans rfl
theorem hC_B_move_69 (cI cZ cQ : ClassId) (q0 q1 q2 q3 q4 q5 q6 q7 q8 q9 q10 q11 q12 q13 q14 q15 q16 q17 : Nat) (S0 : (Nat → Option Nat)) (S1 : cL) (S2 : cP) : ([0, 1, 2, 3, 4, 5, 6, 7, 8, 9, 10, 11, 12, 13, 14, 15, 16, 17] : List Nat).map (fun i => (wB cI cZ cQ q0 q1 q2 S0 ++ wL cI cZ q2 q3 q4 q5 q6 q7 q8 q9 q10 S1 ++ wP cI cZ q11 q12 q13 q14 q15 q16 q17 S2 : va_W)[i]?) = (wB cI cZ cQ q0 q1 q2 S0 ++ wL cI cZ q2 q3 q4 q5 q6 q7 q8 q9 q10 S1 ++ wP cI cZ q11 q12 q13 q14 q15 q16 q17 S2 : va_W).map some := rfl
theorem hU_B_move_69 (cI cZ cQ : ClassId) (q0 q1 q2 q3 q4 q5 q6 q7 q8 q9 q10 q11 q12 q13 q14 q15 q16 q17 : Nat) (S0 : (Nat → Option Nat)) (S1 : cL) (S2 : cP) (R2 : cP) : vz_put (wB cI cZ cQ q0 q1 q2 S0 ++ wL cI cZ q2 q3 q4 q5 q6 q7 q8 q9 q10 S1 ++ wP cI cZ q11 q12 q13 q14 q15 q16 q17 S2 : va_W) [0, 1, 2, 3, 4, 5, 6, 7, 8, 9, 10, 11, 12, 13, 14, 15, 16, 17] (wB cI cZ cQ q0 q1 q2 S0 ++ wL cI cZ q2 q3 q4 q5 q6 q7 q8 q9 q10 S1 ++ wP cI cZ q11 q12 q13 q14 q15 q16 q17 R2 : va_W) = wB cI cZ cQ q0 q1 q2 S0 ++ wL cI cZ q2 q3 q4 q5 q6 q7 q8 q9 q10 S1 ++ wP cI cZ q11 q12 q13 q14 q15 q16 q17 R2 := (show vz_put ([(q0, .inr (3, [.ref q2, .ref q1])), (q1, .inl (cQ, 4, .inr (.inr (.inr (.inr S0))))), (q2, .inr (1, [.ref q3, .ref q4, .ref q5, .ref q6, .ref q7, .ref q8, .ref q9, .ref q10, .int S1.2.2.2.2.2.2.2.2.1, .int S1.2.2.2.2.2.2.2.2.2])), (q3, .inl (cI, 301, .inl S1.1)), (q4, .inl (cI, 301, .inl S1.2.1)), (q5, .inl (cI, 301, .inl S1.2.2.1)), (q6, .inl (cI, 301, .inl S1.2.2.2.1)), (q7, .inl (cI, 301, .inl S1.2.2.2.2.1)), (q8, .inl (cI, 301, .inl S1.2.2.2.2.2.1)), (q9, .inl (cI, 301, .inl S1.2.2.2.2.2.2.1)), (q10, .inl (cI, 300, .inl S1.2.2.2.2.2.2.2.1)), (q11, .inr (2, [.ref q12, .ref q13, .int S2.2.2.1, .int S2.2.2.2.1, .int S2.2.2.2.2])), (q12, .inl (cI, 301, .inl S2.1)), (q13, .inr (0, [.ref q14, .ref q15, .ref q16, .ref q17, .int S2.2.1.2.2.2.2])), (q14, .inl (cZ, 40, .inl S2.2.1.1)), (q15, .inl (cI, 40, .inl S2.2.1.2.1)), (q16, .inl (cI, 40, .inl S2.2.1.2.2.1)), (q17, .inl (cI, 40, .inl S2.2.1.2.2.2.1))] : va_W) [0, 1, 2, 3, 4, 5, 6, 7, 8, 9, 10, 11, 12, 13, 14, 15, 16, 17] ([(q0, .inr (3, [.ref q2, .ref q1])), (q1, .inl (cQ, 4, .inr (.inr (.inr (.inr S0))))), (q2, .inr (1, [.ref q3, .ref q4, .ref q5, .ref q6, .ref q7, .ref q8, .ref q9, .ref q10, .int S1.2.2.2.2.2.2.2.2.1, .int S1.2.2.2.2.2.2.2.2.2])), (q3, .inl (cI, 301, .inl S1.1)), (q4, .inl (cI, 301, .inl S1.2.1)), (q5, .inl (cI, 301, .inl S1.2.2.1)), (q6, .inl (cI, 301, .inl S1.2.2.2.1)), (q7, .inl (cI, 301, .inl S1.2.2.2.2.1)), (q8, .inl (cI, 301, .inl S1.2.2.2.2.2.1)), (q9, .inl (cI, 301, .inl S1.2.2.2.2.2.2.1)), (q10, .inl (cI, 300, .inl S1.2.2.2.2.2.2.2.1)), (q11, .inr (2, [.ref q12, .ref q13, .int R2.2.2.1, .int R2.2.2.2.1, .int R2.2.2.2.2])), (q12, .inl (cI, 301, .inl R2.1)), (q13, .inr (0, [.ref q14, .ref q15, .ref q16, .ref q17, .int R2.2.1.2.2.2.2])), (q14, .inl (cZ, 40, .inl R2.2.1.1)), (q15, .inl (cI, 40, .inl R2.2.1.2.1)), (q16, .inl (cI, 40, .inl R2.2.1.2.2.1)), (q17, .inl (cI, 40, .inl R2.2.1.2.2.2.1))] : va_W) = [(q0, .inr (3, [.ref q2, .ref q1])), (q1, .inl (cQ, 4, .inr (.inr (.inr (.inr S0))))), (q2, .inr (1, [.ref q3, .ref q4, .ref q5, .ref q6, .ref q7, .ref q8, .ref q9, .ref q10, .int S1.2.2.2.2.2.2.2.2.1, .int S1.2.2.2.2.2.2.2.2.2])), (q3, .inl (cI, 301, .inl S1.1)), (q4, .inl (cI, 301, .inl S1.2.1)), (q5, .inl (cI, 301, .inl S1.2.2.1)), (q6, .inl (cI, 301, .inl S1.2.2.2.1)), (q7, .inl (cI, 301, .inl S1.2.2.2.2.1)), (q8, .inl (cI, 301, .inl S1.2.2.2.2.2.1)), (q9, .inl (cI, 301, .inl S1.2.2.2.2.2.2.1)), (q10, .inl (cI, 300, .inl S1.2.2.2.2.2.2.2.1)), (q11, .inr (2, [.ref q12, .ref q13, .int R2.2.2.1, .int R2.2.2.2.1, .int R2.2.2.2.2])), (q12, .inl (cI, 301, .inl R2.1)), (q13, .inr (0, [.ref q14, .ref q15, .ref q16, .ref q17, .int R2.2.1.2.2.2.2])), (q14, .inl (cZ, 40, .inl R2.2.1.1)), (q15, .inl (cI, 40, .inl R2.2.1.2.1)), (q16, .inl (cI, 40, .inl R2.2.1.2.2.1)), (q17, .inl (cI, 40, .inl R2.2.1.2.2.2.1))] from rfl).trans rfl
theorem hC_B_move_35 (cI cZ cQ : ClassId) (q0 q1 q2 q3 q4 q5 q6 q7 q8 q9 q10 q11 q12 q13 q14 q15 q16 q17 : Nat) (S0 : (Nat → Option Nat)) (S1 : cL) (S2 : cP) : ([0, 1, 2, 3, 4, 5, 6, 7, 8, 9, 10] : List Nat).map (fun i => (wB cI cZ cQ q0 q1 q2 S0 ++ wL cI cZ q2 q3 q4 q5 q6 q7 q8 q9 q10 S1 ++ wP cI cZ q11 q12 q13 q14 q15 q16 q17 S2 : va_W)[i]?) = (wB cI cZ cQ q0 q1 q2 S0 ++ wL cI cZ q2 q3 q4 q5 q6 q7 q8 q9 q10 S1 : va_W).map some := rfl
theorem hU_B_move_35 (cI cZ cQ : ClassId) (q0 q1 q2 q3 q4 q5 q6 q7 q8 q9 q10 q11 q12 q13 q14 q15 q16 q17 : Nat) (S0 : (Nat → Option Nat)) (S1 : cL) (S2 : cP)  : vz_put (wB cI cZ cQ q0 q1 q2 S0 ++ wL cI cZ q2 q3 q4 q5 q6 q7 q8 q9 q10 S1 ++ wP cI cZ q11 q12 q13 q14 q15 q16 q17 S2 : va_W) [0, 1, 2, 3, 4, 5, 6, 7, 8, 9, 10] (wB cI cZ cQ q0 q1 q2 S0 ++ wL cI cZ q2 q3 q4 q5 q6 q7 q8 q9 q10 S1 : va_W) = wB cI cZ cQ q0 q1 q2 S0 ++ wL cI cZ q2 q3 q4 q5 q6 q7 q8 q9 q10 S1 ++ wP cI cZ q11 q12 q13 q14 q15 q16 q17 S2 := (show vz_put ([(q0, .inr (3, [.ref q2, .ref q1])), (q1, .inl (cQ, 4, .inr (.inr (.inr (.inr S0))))), (q2, .inr (1, [.ref q3, .ref q4, .ref q5, .ref q6, .ref q7, .ref q8, .ref q9, .ref q10, .int S1.2.2.2.2.2.2.2.2.1, .int S1.2.2.2.2.2.2.2.2.2])), (q3, .inl (cI, 301, .inl S1.1)), (q4, .inl (cI, 301, .inl S1.2.1)), (q5, .inl (cI, 301, .inl S1.2.2.1)), (q6, .inl (cI, 301, .inl S1.2.2.2.1)), (q7, .inl (cI, 301, .inl S1.2.2.2.2.1)), (q8, .inl (cI, 301, .inl S1.2.2.2.2.2.1)), (q9, .inl (cI, 301, .inl S1.2.2.2.2.2.2.1)), (q10, .inl (cI, 300, .inl S1.2.2.2.2.2.2.2.1)), (q11, .inr (2, [.ref q12, .ref q13, .int S2.2.2.1, .int S2.2.2.2.1, .int S2.2.2.2.2])), (q12, .inl (cI, 301, .inl S2.1)), (q13, .inr (0, [.ref q14, .ref q15, .ref q16, .ref q17, .int S2.2.1.2.2.2.2])), (q14, .inl (cZ, 40, .inl S2.2.1.1)), (q15, .inl (cI, 40, .inl S2.2.1.2.1)), (q16, .inl (cI, 40, .inl S2.2.1.2.2.1)), (q17, .inl (cI, 40, .inl S2.2.1.2.2.2.1))] : va_W) [0, 1, 2, 3, 4, 5, 6, 7, 8, 9, 10] ([(q0, .inr (3, [.ref q2, .ref q1])), (q1, .inl (cQ, 4, .inr (.inr (.inr (.inr S0))))), (q2, .inr (1, [.ref q3, .ref q4, .ref q5, .ref q6, .ref q7, .ref q8, .ref q9, .ref q10, .int S1.2.2.2.2.2.2.2.2.1, .int S1.2.2.2.2.2.2.2.2.2])), (q3, .inl (cI, 301, .inl S1.1)), (q4, .inl (cI, 301, .inl S1.2.1)), (q5, .inl (cI, 301, .inl S1.2.2.1)), (q6, .inl (cI, 301, .inl S1.2.2.2.1)), (q7, .inl (cI, 301, .inl S1.2.2.2.2.1)), (q8, .inl (cI, 301, .inl S1.2.2.2.2.2.1)), (q9, .inl (cI, 301, .inl S1.2.2.2.2.2.2.1)), (q10, .inl (cI, 300, .inl S1.2.2.2.2.2.2.2.1))] : va_W) = [(q0, .inr (3, [.ref q2, .ref q1])), (q1, .inl (cQ, 4, .inr (.inr (.inr (.inr S0))))), (q2, .inr (1, [.ref q3, .ref q4, .ref q5, .ref q6, .ref q7, .ref q8, .ref q9, .ref q10, .int S1.2.2.2.2.2.2.2.2.1, .int S1.2.2.2.2.2.2.2.2.2])), (q3, .inl (cI, 301, .inl S1.1)), (q4, .inl (cI, 301, .inl S1.2.1)), (q5, .inl (cI, 301, .inl S1.2.2.1)), (q6, .inl (cI, 301, .inl S1.2.2.2.1)), (q7, .inl (cI, 301, .inl S1.2.2.2.2.1)), (q8, .inl (cI, 301, .inl S1.2.2.2.2.2.1)), (q9, .inl (cI, 301, .inl S1.2.2.2.2.2.2.1)), (q10, .inl (cI, 300, .inl S1.2.2.2.2.2.2.2.1)), (q11, .inr (2, [.ref q12, .ref q13, .int S2.2.2.1, .int S2.2.2.2.1, .int S2.2.2.2.2])), (q12, .inl (cI, 301, .inl S2.1)), (q13, .inr (0, [.ref q14, .ref q15, .ref q16, .ref q17, .int S2.2.1.2.2.2.2])), (q14, .inl (cZ, 40, .inl S2.2.1.1)), (q15, .inl (cI, 40, .inl S2.2.1.2.1)), (q16, .inl (cI, 40, .inl S2.2.1.2.2.1)), (q17, .inl (cI, 40, .inl S2.2.1.2.2.2.1))] from rfl).trans rfl
def m_B_move (L : cL) (P : cP) (x1 : Int32) (x2 : Int32) (x3 : Int32) (x4 : Int32) : Int32 × cL × cP := (if (m_B_mayWrite L x1) = 0 then (-1, L, P) else (if (m_B_isMade L x2) = 0 then (-1, L, P) else (if (m_B_isObject L x3) = 0 then (-1, L, P) else (if x4 = (-1) then ((m_B_told (m_L_add L 1 x1 (P.2.2.2.1 + 1) x2 x3 x4).2 P x1 (m_L_add L 1 x1 (P.2.2.2.1 + 1) x2 x3 x4).1).1, (m_L_add L 1 x1 (P.2.2.2.1 + 1) x2 x3 x4).2, (m_B_told (m_L_add L 1 x1 (P.2.2.2.1 + 1) x2 x3 x4).2 P x1 (m_L_add L 1 x1 (P.2.2.2.1 + 1) x2 x3 x4).1).2) else (if (m_B_isObject L x4) = 0 then (-1, L, P) else ((m_B_told (m_L_add L 1 x1 (P.2.2.2.1 + 1) x2 x3 x4).2 P x1 (m_L_add L 1 x1 (P.2.2.2.1 + 1) x2 x3 x4).1).1, (m_L_add L 1 x1 (P.2.2.2.1 + 1) x2 x3 x4).2, (m_B_told (m_L_add L 1 x1 (P.2.2.2.1 + 1) x2 x3 x4).2 P x1 (m_L_add L 1 x1 (P.2.2.2.1 + 1) x2 x3 x4).1).2))))))
set_option maxHeartbeats 1000000 in
set_option maxRecDepth 100000 in
theorem c_B_move (l : Launch) (dC : Nat → ClassId) (dI : Nat → Nat → Nat) (cI cZ cQ : ClassId) (b0 : Nat) (b1 : Nat) (F : Nat → Option Nat) (u0 : Nat) (u1 : Nat) (u2 : Nat) (u3 : Nat) (u4 : Nat) (u5 : Nat) (u6 : Nat) (u7 : Nat) (u8 : Nat) (L : cL) (p0 : Nat) (p1 : Nat) (h0 : Nat) (a1 : Nat) (a2 : Nat) (a3 : Nat) (a4 : Nat) (P : cP) (x1 : Int32) (x2 : Int32) (x3 : Int32) (x4 : Int32) (hF : 0 ≤ x1.toInt → x1.toInt < 4 → F x1.toNatClampNeg = some p0) (hL : okL L) (hA : (0 ≤ x1.toInt ∧ x1.toInt < 4) → L.2.2.2.2.2.2.2.2.1.toInt < 300 → (1 ≤ x2.toInt ∧ x2.toInt ≤ L.2.2.2.2.2.2.2.2.2.toInt) → (0 ≤ x3.toInt ∧ x3.toInt ≤ L.2.2.2.2.2.2.2.2.2.toInt) → (x4 = -1 ∨ (0 ≤ x4.toInt ∧ x4.toInt ≤ L.2.2.2.2.2.2.2.2.2.toInt)) → okTold (m_L_add L 1 x1 (P.2.2.2.1 + 1) x2 x3 x4).2 P (m_L_add L 1 x1 (P.2.2.2.1 + 1) x2 x3 x4).1) : vz_C l (dC, dI) classes [(cI, .int), (cZ, .boolean), (cQ, .object "BinTrees$Person")] y_B_move (Cond.code y_B_move b_B_move 5 (some .int) :: vz_tbl) ({ frames := 6, cells := 0, slots := 0, locals := 141 }) [.ref b0, .int x1, .int x2, .int x3, .int x4] (wB cI cZ cQ b0 b1 u0 F ++ wL cI cZ u0 u1 u2 u3 u4 u5 u6 u7 u8 L ++ wP cI cZ p0 p1 h0 a1 a2 a3 a4 P) (some (.int ((m_B_move L P x1 x2 x3 x4).1))) (wB cI cZ cQ b0 b1 u0 F ++ wL cI cZ u0 u1 u2 u3 u4 u5 u6 u7 u8 ((m_B_move L P x1 x2 x3 x4).2.1) ++ wP cI cZ p0 p1 h0 a1 a2 a3 a4 ((m_B_move L P x1 x2 x3 x4).2.2)) := by
  generalize hres : (m_B_move L P x1 x2 x3 x4) = RES
  refine vz_C.of (by decide) (Nat.le_of_ble_eq_true rfl) ?_
  intro p e s m below meth c ls E hl hK hP hD hS
  obtain ⟨hx, hb, hr, hml, hown, hT, hlocks⟩ := E
  obtain ⟨Q, hQ⟩ : ∃ Q, Q = MQ below (vz_Q (dC, dI) classes (wB cI cZ cQ b0 b1 u0 F ++ wL cI cZ u0 u1 u2 u3 u4 u5 u6 u7 u8 L ++ wP cI cZ p0 p1 h0 a1 a2 a3 a4 P) (some (.int RES.1)) (wB cI cZ cQ b0 b1 u0 F ++ wL cI cZ u0 u1 u2 u3 u4 u5 u6 u7 u8 RES.2.1 ++ wP cI cZ p0 p1 h0 a1 a2 a3 a4 RES.2.2)) ([.ref b0, .int x1, .int x2, .int x3, .int x4] : List Value).toArray s 0 0 (vz_A (wB cI cZ cQ b0 b1 u0 F ++ wL cI cZ u0 u1 u2 u3 u4 u5 u6 u7 u8 L ++ wP cI cZ p0 p1 h0 a1 a2 a3 a4 P)) := ⟨_, rfl⟩
  rw [← hQ]
  have hl : lv_has ls 5 [(0, .ref b0), (1, .int x1), (2, .int x2), (3, .int x3), (4, .int x4)] := hl
  have T0 := ti_0
  have T1 := ti_1
  have Tm := ti_m1
  have T8 := ti_8
  have T39 := ti_39
  have T40 := ti_40
  have T4 := ti_4
  have T300 := ti_300
  have hS0 := hS
  refine lv_aload_n hx hb d_B_move_0 rfl (lv_at hl 0 rfl) ?_
  refine lv_iload_n hx hb d_B_move_1 rfl (lv_at hl 1 rfl) ?_
  have hc := c_B_mayWrite l dC dI cI cZ cQ b0 b1 F u0 u1 u2 u3 u4 u5 u6 u7 u8 L x1 
  generalize hg_2 : (m_B_mayWrite L x1) = g_2 at hc
  refine vz_callV (As := [.int x1]) (rest := []) ⟨hx, hb, hml, hown, hT⟩ hc (vz_goodV kw_139 kw_141 ks_0 kw_1 kw_142) ⟨rfl, hd_B_mayWrite⟩ ⟨⟨rfl, rfl⟩, Nat.le_of_ble_eq_true rfl, Nat.le_of_ble_eq_true rfl⟩ hK hP hD hS [0, 1, 2, 3, 4, 5, 6, 7, 8, 9, 10] rfl (hC_B_move_2 cI cZ cQ b0 b1 u0 u1 u2 u3 u4 u5 u6 u7 u8 p0 p1 h0 a1 a2 a3 a4 F L P) (hF_B_mayWrite cI cZ cQ _ _ _ _) 0 3 rfl rfl rfl rfl hl.1 rfl (Nat.le_of_ble_eq_true rfl) ⟨Nat.zero_le _, Nat.zero_le _⟩ d_B_move_2 (fun H locs hP hD hS => ?_)
  have hP : va_P (dC, dI) classes (wB cI cZ cQ b0 b1 u0 F ++ wL cI cZ u0 u1 u2 u3 u4 u5 u6 u7 u8 L ++ wP cI cZ p0 p1 h0 a1 a2 a3 a4 P) H := vz_reP (hU_B_move_2 cI cZ cQ b0 b1 u0 u1 u2 u3 u4 u5 u6 u7 u8 p0 p1 h0 a1 a2 a3 a4 F L P ) hP
  have hD : va_D (vz_A (wB cI cZ cQ b0 b1 u0 F ++ wL cI cZ u0 u1 u2 u3 u4 u5 u6 u7 u8 L ++ wP cI cZ p0 p1 h0 a1 a2 a3 a4 P)) (wB cI cZ cQ b0 b1 u0 F ++ wL cI cZ u0 u1 u2 u3 u4 u5 u6 u7 u8 L ++ wP cI cZ p0 p1 h0 a1 a2 a3 a4 P) := vz_reD (hU_B_move_2 cI cZ cQ b0 b1 u0 u1 u2 u3 u4 u5 u6 u7 u8 p0 p1 h0 a1 a2 a3 a4 F L P ) hD
  refine W.eq (g2 := F0 m 5 ls [.int g_2]) rfl ?_
  refine lv_if_eq (tgt := 24) hx hb d_B_move_5 (by decide) (fun c_5 => ?_) (fun c_5 => ?_)
  · have z_5 : g_2.toInt = (0 : Int32).toInt := congrArg Int32.toInt c_5
    refine lv_iconst (v := -1) hx hb d_B_move_24 (by decide) ?_
    rw [m_B_move] at hres
    try rw [hg_2] at hres
    rw [if_pos c_5] at hres
    subst hres
    subst hQ
    exact vz_iret hx hb hr hlocks d_B_move_25 hS rfl hP
  · have z_5 : ¬ g_2.toInt = (0 : Int32).toInt := mt Int32.toInt_inj.mp c_5
    refine lv_aload_n hx hb d_B_move_8 rfl (lv_at hl 0 rfl) ?_
    refine lv_iload_n hx hb d_B_move_9 rfl (lv_at hl 2 rfl) ?_
    have hc := c_B_isMade l dC dI cI cZ cQ b0 b1 F u0 u1 u2 u3 u4 u5 u6 u7 u8 L x2 
    generalize hg_10 : (m_B_isMade L x2) = g_10 at hc
    refine vz_callV (As := [.int x2]) (rest := []) ⟨hx, hb, hml, hown, hT⟩ hc (vz_goodV kw_227 kw_229 ks_9 kw_1 kw_230) ⟨rfl, hd_B_isMade⟩ ⟨⟨rfl, rfl⟩, Nat.le_of_ble_eq_true rfl, Nat.le_of_ble_eq_true rfl⟩ hK hP hD hS [0, 1, 2, 3, 4, 5, 6, 7, 8, 9, 10] rfl (hC_B_move_10 cI cZ cQ b0 b1 u0 u1 u2 u3 u4 u5 u6 u7 u8 p0 p1 h0 a1 a2 a3 a4 F L P) (hF_B_isMade cI cZ cQ _ _ _ _) 0 3 rfl rfl rfl rfl hl.1 rfl (Nat.le_of_ble_eq_true rfl) ⟨Nat.zero_le _, Nat.zero_le _⟩ d_B_move_10 (fun H locs hP hD hS => ?_)
    have hP : va_P (dC, dI) classes (wB cI cZ cQ b0 b1 u0 F ++ wL cI cZ u0 u1 u2 u3 u4 u5 u6 u7 u8 L ++ wP cI cZ p0 p1 h0 a1 a2 a3 a4 P) H := vz_reP (hU_B_move_10 cI cZ cQ b0 b1 u0 u1 u2 u3 u4 u5 u6 u7 u8 p0 p1 h0 a1 a2 a3 a4 F L P ) hP
    have hD : va_D (vz_A (wB cI cZ cQ b0 b1 u0 F ++ wL cI cZ u0 u1 u2 u3 u4 u5 u6 u7 u8 L ++ wP cI cZ p0 p1 h0 a1 a2 a3 a4 P)) (wB cI cZ cQ b0 b1 u0 F ++ wL cI cZ u0 u1 u2 u3 u4 u5 u6 u7 u8 L ++ wP cI cZ p0 p1 h0 a1 a2 a3 a4 P) := vz_reD (hU_B_move_10 cI cZ cQ b0 b1 u0 u1 u2 u3 u4 u5 u6 u7 u8 p0 p1 h0 a1 a2 a3 a4 F L P ) hD
    refine W.eq (g2 := F0 m 13 ls [.int g_10]) rfl ?_
    refine lv_if_eq (tgt := 24) hx hb d_B_move_13 (by decide) (fun c_13 => ?_) (fun c_13 => ?_)
    · have z_13 : g_10.toInt = (0 : Int32).toInt := congrArg Int32.toInt c_13
      refine lv_iconst (v := -1) hx hb d_B_move_24 (by decide) ?_
      rw [m_B_move] at hres
      try rw [hg_2] at hres
      rw [if_neg c_5] at hres
      try rw [hg_10] at hres
      rw [if_pos c_13] at hres
      subst hres
      subst hQ
      exact vz_iret hx hb hr hlocks d_B_move_25 hS rfl hP
    · have z_13 : ¬ g_10.toInt = (0 : Int32).toInt := mt Int32.toInt_inj.mp c_13
      refine lv_aload_n hx hb d_B_move_16 rfl (lv_at hl 0 rfl) ?_
      refine lv_iload_n hx hb d_B_move_17 rfl (lv_at hl 3 rfl) ?_
      have hc := c_B_isObject l dC dI cI cZ cQ b0 b1 F u0 u1 u2 u3 u4 u5 u6 u7 u8 L x3 
      generalize hg_18 : (m_B_isObject L x3) = g_18 at hc
      refine vz_callV (As := [.int x3]) (rest := []) ⟨hx, hb, hml, hown, hT⟩ hc (vz_goodV kw_231 kw_233 ks_10 kw_1 kw_234) ⟨rfl, hd_B_isObject⟩ ⟨⟨rfl, rfl⟩, Nat.le_of_ble_eq_true rfl, Nat.le_of_ble_eq_true rfl⟩ hK hP hD hS [0, 1, 2, 3, 4, 5, 6, 7, 8, 9, 10] rfl (hC_B_move_18 cI cZ cQ b0 b1 u0 u1 u2 u3 u4 u5 u6 u7 u8 p0 p1 h0 a1 a2 a3 a4 F L P) (hF_B_isObject cI cZ cQ _ _ _ _) 0 3 rfl rfl rfl rfl hl.1 rfl (Nat.le_of_ble_eq_true rfl) ⟨Nat.zero_le _, Nat.zero_le _⟩ d_B_move_18 (fun H locs hP hD hS => ?_)
      have hP : va_P (dC, dI) classes (wB cI cZ cQ b0 b1 u0 F ++ wL cI cZ u0 u1 u2 u3 u4 u5 u6 u7 u8 L ++ wP cI cZ p0 p1 h0 a1 a2 a3 a4 P) H := vz_reP (hU_B_move_18 cI cZ cQ b0 b1 u0 u1 u2 u3 u4 u5 u6 u7 u8 p0 p1 h0 a1 a2 a3 a4 F L P ) hP
      have hD : va_D (vz_A (wB cI cZ cQ b0 b1 u0 F ++ wL cI cZ u0 u1 u2 u3 u4 u5 u6 u7 u8 L ++ wP cI cZ p0 p1 h0 a1 a2 a3 a4 P)) (wB cI cZ cQ b0 b1 u0 F ++ wL cI cZ u0 u1 u2 u3 u4 u5 u6 u7 u8 L ++ wP cI cZ p0 p1 h0 a1 a2 a3 a4 P) := vz_reD (hU_B_move_18 cI cZ cQ b0 b1 u0 u1 u2 u3 u4 u5 u6 u7 u8 p0 p1 h0 a1 a2 a3 a4 F L P ) hD
      refine W.eq (g2 := F0 m 21 ls [.int g_18]) rfl ?_
      refine lv_if_ne (tgt := 26) hx hb d_B_move_21 (by decide) (fun c_21 => ?_) (fun c_21 => ?_)
      · have z_21 : ¬ g_18.toInt = (0 : Int32).toInt := mt Int32.toInt_inj.mp c_21
        refine lv_iload hx hb d_B_move_26 (lv_at hl 4 rfl) ?_
        refine lv_iconst (v := -1) hx hb d_B_move_28 (by decide) ?_
        refine lv_icmp_eq (tgt := 43) hx hb d_B_move_29 (by decide) (fun c_29 => ?_) (fun c_29 => ?_)
        · have z_29 : x4.toInt = (-1 : Int32).toInt := congrArg Int32.toInt c_29
          refine lv_aload_n hx hb d_B_move_43 rfl (lv_at hl 0 rfl) ?_
          refine lv_iload_n hx hb d_B_move_44 rfl (lv_at hl 1 rfl) ?_
          refine lv_aload_n hx hb d_B_move_45 rfl (lv_at hl 0 rfl) ?_
          refine va_get (D := (dC, dI)) (ci := 3) (v := .ref u0) (C := R_B) (T := F_B) (N := 2) hx hb hT i_B hown hK hP 0 rfl rfl 0 (by decide) (hT _ kw_128) (fun _ h9 => h9) rfl d_B_move_46 ?_
          refine lv_iconst (v := 1) hx hb d_B_move_49 (by decide) ?_
          refine lv_iload_n hx hb d_B_move_50 rfl (lv_at hl 1 rfl) ?_
          refine lv_aload_n hx hb d_B_move_51 rfl (lv_at hl 0 rfl) ?_
          refine va_get (D := (dC, dI)) (ci := 3) (v := .ref b1) (C := R_B) (T := F_B) (N := 2) hx hb hT i_B hown hK hP 0 rfl rfl 1 (by decide) (hT _ kw_129) (fun _ h9 => h9) rfl d_B_move_52 ?_
          refine lv_iload_n hx hb d_B_move_55 rfl (lv_at hl 1 rfl) ?_
          refine va_aldq hx hb hK hP 1 2 rfl rfl (by have hn := mw_t (L := L) (x1 := x1) (by rw [hg_2]; assumption); exact ti_vp (by omega) (by omega)) d_B_move_56 ?_
          rw [show va_rf (F x1.toNatClampNeg) = .ref p0 from by have hn := mw_t (L := L) (x1 := x1) (by rw [hg_2]; assumption); rw [hF hn.1.1 hn.1.2]; rfl]
          refine va_get (D := (dC, dI)) (ci := 2) (v := .int P.2.2.2.1) (C := R_P) (T := F_P) (N := 5) hx hb hT i_P hown hK hP 11 rfl rfl 3 (by decide) (hT _ kw_113) (fun _ h9 => h9) rfl d_B_move_57 ?_
          refine lv_iconst (v := 1) hx hb d_B_move_60 (by decide) ?_
          refine lv_iadd hx hb d_B_move_61 ?_
          refine lv_iload_n hx hb d_B_move_62 rfl (lv_at hl 2 rfl) ?_
          refine lv_iload_n hx hb d_B_move_63 rfl (lv_at hl 3 rfl) ?_
          refine lv_iload hx hb d_B_move_64 (lv_at hl 4 rfl) ?_
          have hc := c_L_add l dC dI cI cZ cQ u0 u1 u2 u3 u4 u5 u6 u7 u8 L 1 x1 (P.2.2.2.1 + 1) x2 x3 x4 (by have hn := mw_t (L := L) (x1 := x1) (by rw [hg_2]; assumption); have hl1 := hL.1; (try dsimp only); omega) (hL.2.1) (by intro h; first | exact absurd h (by decide) | (have := hz h; omega))
          generalize hg_66 : (m_L_add L 1 x1 (P.2.2.2.1 + 1) x2 x3 x4) = g_66 at hc
          refine vz_callV (As := [.int 1, .int x1, .int (P.2.2.2.1 + 1), .int x2, .int x3, .int x4]) (rest := [.int x1, .ref b0]) ⟨hx, hb, hml, hown, hT⟩ hc (vz_goodV kw_146 kw_147 kw_148 kw_2 kw_149) ⟨rfl, hd_L_add⟩ ⟨⟨rfl, rfl⟩, Nat.le_of_ble_eq_true rfl, Nat.le_of_ble_eq_true rfl⟩ hK hP hD hS [2, 3, 4, 5, 6, 7, 8, 9, 10] rfl (hC_B_move_66 cI cZ cQ b0 b1 u0 u1 u2 u3 u4 u5 u6 u7 u8 p0 p1 h0 a1 a2 a3 a4 F L P) (hF_L_add cI cZ cQ _ _) 0 1 rfl rfl rfl rfl hl.1 rfl (Nat.le_of_ble_eq_true rfl) ⟨Nat.zero_le _, Nat.zero_le _⟩ d_B_move_66 (fun H locs hP hD hS => ?_)
          have hP : va_P (dC, dI) classes (wB cI cZ cQ b0 b1 u0 F ++ wL cI cZ u0 u1 u2 u3 u4 u5 u6 u7 u8 g_66.2 ++ wP cI cZ p0 p1 h0 a1 a2 a3 a4 P) H := vz_reP (hU_B_move_66 cI cZ cQ b0 b1 u0 u1 u2 u3 u4 u5 u6 u7 u8 p0 p1 h0 a1 a2 a3 a4 F L P g_66.2) hP
          have hD : va_D (vz_A (wB cI cZ cQ b0 b1 u0 F ++ wL cI cZ u0 u1 u2 u3 u4 u5 u6 u7 u8 L ++ wP cI cZ p0 p1 h0 a1 a2 a3 a4 P)) (wB cI cZ cQ b0 b1 u0 F ++ wL cI cZ u0 u1 u2 u3 u4 u5 u6 u7 u8 g_66.2 ++ wP cI cZ p0 p1 h0 a1 a2 a3 a4 P) := vz_reD (hU_B_move_66 cI cZ cQ b0 b1 u0 u1 u2 u3 u4 u5 u6 u7 u8 p0 p1 h0 a1 a2 a3 a4 F L P g_66.2) hD
          refine W.eq (g2 := F0 m 69 ls [.int g_66.1, .int x1, .ref b0]) rfl ?_
          have hc := c_B_told l dC dI cI cZ cQ b0 b1 F u0 u1 u2 u3 u4 u5 u6 u7 u8 g_66.2 p0 p1 h0 a1 a2 a3 a4 P x1 g_66.1 (by have hn := mw_t (L := L) (x1 := x1) (by rw [hg_2]; assumption); exact hF hn.1.1 hn.1.2) (by have hn := mw_t (L := L) (x1 := x1) (by rw [hg_2]; assumption); exact hn.1) (by have hn := mw_t (L := L) (x1 := x1) (by rw [hg_2]; assumption); rw [← hg_66]; exact hA hn.1 hn.2 (by have hm := ism_t (L := L) (x1 := x2) (by rw [hg_10]; assumption); exact hm) (by have ho := iso_t (L := L) (x1 := x3) (by rw [hg_18]; assumption); exact ho) (by first | exact Or.inl c_29 | exact Or.inr (iso_t (by rw [hg_35]; assumption))))
          generalize hg_69 : (m_B_told g_66.2 P x1 g_66.1) = g_69 at hc
          refine vz_callV (As := [.int x1, .int g_66.1]) (rest := []) ⟨hx, hb, hml, hown, hT⟩ hc (vz_goodV kw_158 kw_160 ks_3 kw_1 kw_161) ⟨rfl, hd_B_told⟩ ⟨⟨rfl, rfl⟩, Nat.le_of_ble_eq_true rfl, Nat.le_of_ble_eq_true rfl⟩ hK hP hD hS [0, 1, 2, 3, 4, 5, 6, 7, 8, 9, 10, 11, 12, 13, 14, 15, 16, 17] rfl (hC_B_move_69 cI cZ cQ b0 b1 u0 u1 u2 u3 u4 u5 u6 u7 u8 p0 p1 h0 a1 a2 a3 a4 F g_66.2 P) (hF_B_told cI cZ cQ _ _ _ _ _ _) 0 3 rfl rfl rfl rfl hl.1 rfl (Nat.le_of_ble_eq_true rfl) ⟨Nat.zero_le _, Nat.zero_le _⟩ d_B_move_69 (fun H locs hP hD hS => ?_)
          have hP : va_P (dC, dI) classes (wB cI cZ cQ b0 b1 u0 F ++ wL cI cZ u0 u1 u2 u3 u4 u5 u6 u7 u8 g_66.2 ++ wP cI cZ p0 p1 h0 a1 a2 a3 a4 g_69.2) H := vz_reP (hU_B_move_69 cI cZ cQ b0 b1 u0 u1 u2 u3 u4 u5 u6 u7 u8 p0 p1 h0 a1 a2 a3 a4 F g_66.2 P g_69.2) hP
          have hD : va_D (vz_A (wB cI cZ cQ b0 b1 u0 F ++ wL cI cZ u0 u1 u2 u3 u4 u5 u6 u7 u8 L ++ wP cI cZ p0 p1 h0 a1 a2 a3 a4 P)) (wB cI cZ cQ b0 b1 u0 F ++ wL cI cZ u0 u1 u2 u3 u4 u5 u6 u7 u8 g_66.2 ++ wP cI cZ p0 p1 h0 a1 a2 a3 a4 g_69.2) := vz_reD (hU_B_move_69 cI cZ cQ b0 b1 u0 u1 u2 u3 u4 u5 u6 u7 u8 p0 p1 h0 a1 a2 a3 a4 F g_66.2 P g_69.2) hD
          refine W.eq (g2 := F0 m 72 ls [.int g_69.1]) rfl ?_
          rw [m_B_move] at hres
          try rw [hg_2] at hres
          rw [if_neg c_5] at hres
          try rw [hg_10] at hres
          rw [if_neg c_13] at hres
          try rw [hg_18] at hres
          rw [if_neg c_21, if_pos c_29] at hres
          try rw [hg_66] at hres
          try rw [hg_69] at hres
          subst hres
          subst hQ
          exact vz_iret hx hb hr hlocks d_B_move_72 hS rfl hP
        · have z_29 : ¬ x4.toInt = (-1 : Int32).toInt := mt Int32.toInt_inj.mp c_29
          refine lv_aload_n hx hb d_B_move_32 rfl (lv_at hl 0 rfl) ?_
          refine lv_iload hx hb d_B_move_33 (lv_at hl 4 rfl) ?_
          have hc := c_B_isObject l dC dI cI cZ cQ b0 b1 F u0 u1 u2 u3 u4 u5 u6 u7 u8 L x4 
          generalize hg_35 : (m_B_isObject L x4) = g_35 at hc
          refine vz_callV (As := [.int x4]) (rest := []) ⟨hx, hb, hml, hown, hT⟩ hc (vz_goodV kw_231 kw_233 ks_10 kw_1 kw_234) ⟨rfl, hd_B_isObject⟩ ⟨⟨rfl, rfl⟩, Nat.le_of_ble_eq_true rfl, Nat.le_of_ble_eq_true rfl⟩ hK hP hD hS [0, 1, 2, 3, 4, 5, 6, 7, 8, 9, 10] rfl (hC_B_move_35 cI cZ cQ b0 b1 u0 u1 u2 u3 u4 u5 u6 u7 u8 p0 p1 h0 a1 a2 a3 a4 F L P) (hF_B_isObject cI cZ cQ _ _ _ _) 0 3 rfl rfl rfl rfl hl.1 rfl (Nat.le_of_ble_eq_true rfl) ⟨Nat.zero_le _, Nat.zero_le _⟩ d_B_move_35 (fun H locs hP hD hS => ?_)
          have hP : va_P (dC, dI) classes (wB cI cZ cQ b0 b1 u0 F ++ wL cI cZ u0 u1 u2 u3 u4 u5 u6 u7 u8 L ++ wP cI cZ p0 p1 h0 a1 a2 a3 a4 P) H := vz_reP (hU_B_move_35 cI cZ cQ b0 b1 u0 u1 u2 u3 u4 u5 u6 u7 u8 p0 p1 h0 a1 a2 a3 a4 F L P ) hP
          have hD : va_D (vz_A (wB cI cZ cQ b0 b1 u0 F ++ wL cI cZ u0 u1 u2 u3 u4 u5 u6 u7 u8 L ++ wP cI cZ p0 p1 h0 a1 a2 a3 a4 P)) (wB cI cZ cQ b0 b1 u0 F ++ wL cI cZ u0 u1 u2 u3 u4 u5 u6 u7 u8 L ++ wP cI cZ p0 p1 h0 a1 a2 a3 a4 P) := vz_reD (hU_B_move_35 cI cZ cQ b0 b1 u0 u1 u2 u3 u4 u5 u6 u7 u8 p0 p1 h0 a1 a2 a3 a4 F L P ) hD
          refine W.eq (g2 := F0 m 38 ls [.int g_35]) rfl ?_
          refine lv_if_ne (tgt := 43) hx hb d_B_move_38 (by decide) (fun c_38 => ?_) (fun c_38 => ?_)
          · have z_38 : ¬ g_35.toInt = (0 : Int32).toInt := mt Int32.toInt_inj.mp c_38
            refine lv_aload_n hx hb d_B_move_43 rfl (lv_at hl 0 rfl) ?_
            refine lv_iload_n hx hb d_B_move_44 rfl (lv_at hl 1 rfl) ?_
            refine lv_aload_n hx hb d_B_move_45 rfl (lv_at hl 0 rfl) ?_
            refine va_get (D := (dC, dI)) (ci := 3) (v := .ref u0) (C := R_B) (T := F_B) (N := 2) hx hb hT i_B hown hK hP 0 rfl rfl 0 (by decide) (hT _ kw_128) (fun _ h9 => h9) rfl d_B_move_46 ?_
            refine lv_iconst (v := 1) hx hb d_B_move_49 (by decide) ?_
            refine lv_iload_n hx hb d_B_move_50 rfl (lv_at hl 1 rfl) ?_
            refine lv_aload_n hx hb d_B_move_51 rfl (lv_at hl 0 rfl) ?_
            refine va_get (D := (dC, dI)) (ci := 3) (v := .ref b1) (C := R_B) (T := F_B) (N := 2) hx hb hT i_B hown hK hP 0 rfl rfl 1 (by decide) (hT _ kw_129) (fun _ h9 => h9) rfl d_B_move_52 ?_
            refine lv_iload_n hx hb d_B_move_55 rfl (lv_at hl 1 rfl) ?_
            refine va_aldq hx hb hK hP 1 2 rfl rfl (by have hn := mw_t (L := L) (x1 := x1) (by rw [hg_2]; assumption); exact ti_vp (by omega) (by omega)) d_B_move_56 ?_
            rw [show va_rf (F x1.toNatClampNeg) = .ref p0 from by have hn := mw_t (L := L) (x1 := x1) (by rw [hg_2]; assumption); rw [hF hn.1.1 hn.1.2]; rfl]
            refine va_get (D := (dC, dI)) (ci := 2) (v := .int P.2.2.2.1) (C := R_P) (T := F_P) (N := 5) hx hb hT i_P hown hK hP 11 rfl rfl 3 (by decide) (hT _ kw_113) (fun _ h9 => h9) rfl d_B_move_57 ?_
            refine lv_iconst (v := 1) hx hb d_B_move_60 (by decide) ?_
            refine lv_iadd hx hb d_B_move_61 ?_
            refine lv_iload_n hx hb d_B_move_62 rfl (lv_at hl 2 rfl) ?_
            refine lv_iload_n hx hb d_B_move_63 rfl (lv_at hl 3 rfl) ?_
            refine lv_iload hx hb d_B_move_64 (lv_at hl 4 rfl) ?_
            have hc := c_L_add l dC dI cI cZ cQ u0 u1 u2 u3 u4 u5 u6 u7 u8 L 1 x1 (P.2.2.2.1 + 1) x2 x3 x4 (by have hn := mw_t (L := L) (x1 := x1) (by rw [hg_2]; assumption); have hl1 := hL.1; (try dsimp only); omega) (hL.2.1) (by intro h; first | exact absurd h (by decide) | (have := hz h; omega))
            generalize hg_66 : (m_L_add L 1 x1 (P.2.2.2.1 + 1) x2 x3 x4) = g_66 at hc
            refine vz_callV (As := [.int 1, .int x1, .int (P.2.2.2.1 + 1), .int x2, .int x3, .int x4]) (rest := [.int x1, .ref b0]) ⟨hx, hb, hml, hown, hT⟩ hc (vz_goodV kw_146 kw_147 kw_148 kw_2 kw_149) ⟨rfl, hd_L_add⟩ ⟨⟨rfl, rfl⟩, Nat.le_of_ble_eq_true rfl, Nat.le_of_ble_eq_true rfl⟩ hK hP hD hS [2, 3, 4, 5, 6, 7, 8, 9, 10] rfl (hC_B_move_66 cI cZ cQ b0 b1 u0 u1 u2 u3 u4 u5 u6 u7 u8 p0 p1 h0 a1 a2 a3 a4 F L P) (hF_L_add cI cZ cQ _ _) 0 1 rfl rfl rfl rfl hl.1 rfl (Nat.le_of_ble_eq_true rfl) ⟨Nat.zero_le _, Nat.zero_le _⟩ d_B_move_66 (fun H locs hP hD hS => ?_)
            have hP : va_P (dC, dI) classes (wB cI cZ cQ b0 b1 u0 F ++ wL cI cZ u0 u1 u2 u3 u4 u5 u6 u7 u8 g_66.2 ++ wP cI cZ p0 p1 h0 a1 a2 a3 a4 P) H := vz_reP (hU_B_move_66 cI cZ cQ b0 b1 u0 u1 u2 u3 u4 u5 u6 u7 u8 p0 p1 h0 a1 a2 a3 a4 F L P g_66.2) hP
            have hD : va_D (vz_A (wB cI cZ cQ b0 b1 u0 F ++ wL cI cZ u0 u1 u2 u3 u4 u5 u6 u7 u8 L ++ wP cI cZ p0 p1 h0 a1 a2 a3 a4 P)) (wB cI cZ cQ b0 b1 u0 F ++ wL cI cZ u0 u1 u2 u3 u4 u5 u6 u7 u8 g_66.2 ++ wP cI cZ p0 p1 h0 a1 a2 a3 a4 P) := vz_reD (hU_B_move_66 cI cZ cQ b0 b1 u0 u1 u2 u3 u4 u5 u6 u7 u8 p0 p1 h0 a1 a2 a3 a4 F L P g_66.2) hD
            refine W.eq (g2 := F0 m 69 ls [.int g_66.1, .int x1, .ref b0]) rfl ?_
            have hc := c_B_told l dC dI cI cZ cQ b0 b1 F u0 u1 u2 u3 u4 u5 u6 u7 u8 g_66.2 p0 p1 h0 a1 a2 a3 a4 P x1 g_66.1 (by have hn := mw_t (L := L) (x1 := x1) (by rw [hg_2]; assumption); exact hF hn.1.1 hn.1.2) (by have hn := mw_t (L := L) (x1 := x1) (by rw [hg_2]; assumption); exact hn.1) (by have hn := mw_t (L := L) (x1 := x1) (by rw [hg_2]; assumption); rw [← hg_66]; exact hA hn.1 hn.2 (by have hm := ism_t (L := L) (x1 := x2) (by rw [hg_10]; assumption); exact hm) (by have ho := iso_t (L := L) (x1 := x3) (by rw [hg_18]; assumption); exact ho) (by first | exact Or.inl c_29 | exact Or.inr (iso_t (by rw [hg_35]; assumption))))
            generalize hg_69 : (m_B_told g_66.2 P x1 g_66.1) = g_69 at hc
            refine vz_callV (As := [.int x1, .int g_66.1]) (rest := []) ⟨hx, hb, hml, hown, hT⟩ hc (vz_goodV kw_158 kw_160 ks_3 kw_1 kw_161) ⟨rfl, hd_B_told⟩ ⟨⟨rfl, rfl⟩, Nat.le_of_ble_eq_true rfl, Nat.le_of_ble_eq_true rfl⟩ hK hP hD hS [0, 1, 2, 3, 4, 5, 6, 7, 8, 9, 10, 11, 12, 13, 14, 15, 16, 17] rfl (hC_B_move_69 cI cZ cQ b0 b1 u0 u1 u2 u3 u4 u5 u6 u7 u8 p0 p1 h0 a1 a2 a3 a4 F g_66.2 P) (hF_B_told cI cZ cQ _ _ _ _ _ _) 0 3 rfl rfl rfl rfl hl.1 rfl (Nat.le_of_ble_eq_true rfl) ⟨Nat.zero_le _, Nat.zero_le _⟩ d_B_move_69 (fun H locs hP hD hS => ?_)
            have hP : va_P (dC, dI) classes (wB cI cZ cQ b0 b1 u0 F ++ wL cI cZ u0 u1 u2 u3 u4 u5 u6 u7 u8 g_66.2 ++ wP cI cZ p0 p1 h0 a1 a2 a3 a4 g_69.2) H := vz_reP (hU_B_move_69 cI cZ cQ b0 b1 u0 u1 u2 u3 u4 u5 u6 u7 u8 p0 p1 h0 a1 a2 a3 a4 F g_66.2 P g_69.2) hP
            have hD : va_D (vz_A (wB cI cZ cQ b0 b1 u0 F ++ wL cI cZ u0 u1 u2 u3 u4 u5 u6 u7 u8 L ++ wP cI cZ p0 p1 h0 a1 a2 a3 a4 P)) (wB cI cZ cQ b0 b1 u0 F ++ wL cI cZ u0 u1 u2 u3 u4 u5 u6 u7 u8 g_66.2 ++ wP cI cZ p0 p1 h0 a1 a2 a3 a4 g_69.2) := vz_reD (hU_B_move_69 cI cZ cQ b0 b1 u0 u1 u2 u3 u4 u5 u6 u7 u8 p0 p1 h0 a1 a2 a3 a4 F g_66.2 P g_69.2) hD
            refine W.eq (g2 := F0 m 72 ls [.int g_69.1]) rfl ?_
            rw [m_B_move] at hres
            try rw [hg_2] at hres
            rw [if_neg c_5] at hres
            try rw [hg_10] at hres
            rw [if_neg c_13] at hres
            try rw [hg_18] at hres
            rw [if_neg c_21, if_neg c_29] at hres
            try rw [hg_35] at hres
            rw [if_neg c_38] at hres
            try rw [hg_66] at hres
            try rw [hg_69] at hres
            subst hres
            subst hQ
            exact vz_iret hx hb hr hlocks d_B_move_72 hS rfl hP
          · have z_38 : g_35.toInt = (0 : Int32).toInt := congrArg Int32.toInt c_38
            refine lv_iconst (v := -1) hx hb d_B_move_41 (by decide) ?_
            rw [m_B_move] at hres
            try rw [hg_2] at hres
            rw [if_neg c_5] at hres
            try rw [hg_10] at hres
            rw [if_neg c_13] at hres
            try rw [hg_18] at hres
            rw [if_neg c_21, if_neg c_29] at hres
            try rw [hg_35] at hres
            rw [if_pos c_38] at hres
            subst hres
            subst hQ
            exact vz_iret hx hb hr hlocks d_B_move_42 hS rfl hP
      · have z_21 : g_18.toInt = (0 : Int32).toInt := congrArg Int32.toInt c_21
        refine lv_iconst (v := -1) hx hb d_B_move_24 (by decide) ?_
        rw [m_B_move] at hres
        try rw [hg_2] at hres
        rw [if_neg c_5] at hres
        try rw [hg_10] at hres
        rw [if_neg c_13] at hres
        try rw [hg_18] at hres
        rw [if_pos c_21] at hres
        subst hres
        subst hQ
        exact vz_iret hx hb hr hlocks d_B_move_25 hS rfl hP
