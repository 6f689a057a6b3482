theorem d_B_remove_0 : decode b_B_remove 0 = .ok (.aload_n 0, 1) := by decide +kernel
theorem d_B_remove_1 : decode b_B_remove 1 = .ok (.iload_n 1, 1) := by decide +kernel
theorem d_B_remove_2 : decode b_B_remove 2 = .ok (.invokevirtual 23, 3) := by decide +kernel
theorem d_B_remove_5 : decode b_B_remove 5 = .ok (.ifCond .eq 11, 3) := by decide +kernel
theorem d_B_remove_8 : decode b_B_remove 8 = .ok (.aload_n 0, 1) := by decide +kernel
theorem d_B_remove_9 : decode b_B_remove 9 = .ok (.iload_n 2, 1) := by decide +kernel
theorem d_B_remove_10 : decode b_B_remove 10 = .ok (.invokevirtual 42, 3) := by decide +kernel
theorem d_B_remove_13 : decode b_B_remove 13 = .ok (.ifCond .ne 5, 3) := by decide +kernel
theorem d_B_remove_16 : decode b_B_remove 16 = .ok (.iconst (-1), 1) := by decide +kernel
theorem d_B_remove_17 : decode b_B_remove 17 = .ok (.ireturn, 1) := by decide +kernel
theorem d_B_remove_18 : decode b_B_remove 18 = .ok (.iload_n 3, 1) := by decide +kernel
theorem d_B_remove_19 : decode b_B_remove 19 = .ok (.ifCond .eq 7, 3) := by decide +kernel
theorem d_B_remove_22 : decode b_B_remove 22 = .ok (.iconst 3, 1) := by decide +kernel
theorem d_B_remove_23 : decode b_B_remove 23 = .ok (.goto 4, 3) := by decide +kernel
theorem d_B_remove_26 : decode b_B_remove 26 = .ok (.iconst 2, 1) := by decide +kernel
theorem d_B_remove_27 : decode b_B_remove 27 = .ok (.istore 4, 2) := by decide +kernel
theorem d_B_remove_29 : decode b_B_remove 29 = .ok (.aload_n 0, 1) := by decide +kernel
theorem d_B_remove_30 : decode b_B_remove 30 = .ok (.iload_n 1, 1) := by decide +kernel
theorem d_B_remove_31 : decode b_B_remove 31 = .ok (.aload_n 0, 1) := by decide +kernel
theorem d_B_remove_32 : decode b_B_remove 32 = .ok (.getfield 10, 3) := by decide +kernel
theorem d_B_remove_35 : decode b_B_remove 35 = .ok (.iload 4, 2) := by decide +kernel
theorem d_B_remove_37 : decode b_B_remove 37 = .ok (.iload_n 1, 1) := by decide +kernel
theorem d_B_remove_38 : decode b_B_remove 38 = .ok (.aload_n 0, 1) := by decide +kernel
theorem d_B_remove_39 : decode b_B_remove 39 = .ok (.getfield 18, 3) := by decide +kernel
theorem d_B_remove_42 : decode b_B_remove 42 = .ok (.iload_n 1, 1) := by decide +kernel
theorem d_B_remove_43 : decode b_B_remove 43 = .ok (.aaload, 1) := by decide +kernel
theorem d_B_remove_44 : decode b_B_remove 44 = .ok (.getfield 31, 3) := by decide +kernel
theorem d_B_remove_47 : decode b_B_remove 47 = .ok (.iconst 1, 1) := by decide +kernel
theorem d_B_remove_48 : decode b_B_remove 48 = .ok (.iadd, 1) := by decide +kernel
theorem d_B_remove_49 : decode b_B_remove 49 = .ok (.iload_n 2, 1) := by decide +kernel
theorem d_B_remove_50 : decode b_B_remove 50 = .ok (.iconst (-1), 1) := by decide +kernel
theorem d_B_remove_51 : decode b_B_remove 51 = .ok (.iconst (-1), 1) := by decide +kernel
theorem d_B_remove_52 : decode b_B_remove 52 = .ok (.invokevirtual 34, 3) := by decide +kernel
theorem d_B_remove_55 : decode b_B_remove 55 = .ok (.invokevirtual 38, 3) := by decide +kernel
theorem d_B_remove_58 : decode b_B_remove 58 = .ok (.ireturn, 1) := by decide +kernel
theorem hC_B_remove_2 (cI cZ cQ : ClassId) (q0 q1 q2 q3 q4 q5 q6 q7 q8 q9 q10 q11 q12 q13 q14 q15 q16 q17 : Nat) (S0 : (Nat → Option Nat)) (S1 : cL) (S2 : cP) : ([0, 1, 2, 3, 4, 5, 6, 7, 8, 9, 10] : List Nat).map (fun i => (wB cI cZ cQ q0 q1 q2 S0 ++ wL cI cZ q2 q3 q4 q5 q6 q7 q8 q9 q10 S1 ++ wP cI cZ q11 q12 q13 q14 q15 q16 q17 S2 : va_W)[i]?) = (wB cI cZ cQ q0 q1 q2 S0 ++ wL cI cZ q2 q3 q4 q5 q6 q7 q8 q9 q10 S1 : va_W).map some := rfl
theorem hU_B_remove_2 (cI cZ cQ : ClassId) (q0 q1 q2 q3 q4 q5 q6 q7 q8 q9 q10 q11 q12 q13 q14 q15 q16 q17 : Nat) (S0 : (Nat → Option Nat)) (S1 : cL) (S2 : cP)  : vz_put (wB cI cZ cQ q0 q1 q2 S0 ++ wL cI cZ q2 q3 q4 q5 q6 q7 q8 q9 q10 S1 ++ wP cI cZ q11 q12 q13 q14 q15 q16 q17 S2 : va_W) [0, 1, 2, 3, 4, 5, 6, 7, 8, 9, 10] (wB cI cZ cQ q0 q1 q2 S0 ++ wL cI cZ q2 q3 q4 q5 q6 q7 q8 q9 q10 S1 : va_W) = wB cI cZ cQ q0 q1 q2 S0 ++ wL cI cZ q2 q3 q4 q5 q6 q7 q8 q9 q10 S1 ++ wP cI cZ q11 q12 q13 q14 q15 q16 q17 S2 := (show vz_put ([(q0, .inr (3, [.ref q2, .ref q1])), (q1, .inl (cQ, 4, .inr (.inr (.inr (.inr S0))))), (q2, .inr (1, [.ref q3, .ref q4, .ref q5, .ref q6, .ref q7, .ref q8, .ref q9, .ref q10, .int S1.2.2.2.2.2.2.2.2.1, .int S1.2.2.2.2.2.2.2.2.2])), (q3, .inl (cI, 301, .inl S1.1)), (q4, .inl (cI, 301, .inl S1.2.1)), (q5, .inl (cI, 301, .inl S1.2.2.1)), (q6, .inl (cI, 301, .inl S1.2.2.2.1)), (q7, .inl (cI, 301, .inl S1.2.2.2.2.1)), (q8, .inl (cI, 301, .inl S1.2.2.2.2.2.1)), (q9, .inl (cI, 301, .inl S1.2.2.2.2.2.2.1)), (q10, .inl (cI, 300, .inl S1.2.2.2.2.2.2.2.1)), (q11, .inr (2, [.ref q12, .ref q13, .int S2.2.2.1, .int S2.2.2.2.1, .int S2.2.2.2.2])), (q12, .inl (cI, 301, .inl S2.1)), (q13, .inr (0, [.ref q14, .ref q15, .ref q16, .ref q17, .int S2.2.1.2.2.2.2])), (q14, .inl (cZ, 40, .inl S2.2.1.1)), (q15, .inl (cI, 40, .inl S2.2.1.2.1)), (q16, .inl (cI, 40, .inl S2.2.1.2.2.1)), (q17, .inl (cI, 40, .inl S2.2.1.2.2.2.1))] : va_W) [0, 1, 2, 3, 4, 5, 6, 7, 8, 9, 10] ([(q0, .inr (3, [.ref q2, .ref q1])), (q1, .inl (cQ, 4, .inr (.inr (.inr (.inr S0))))), (q2, .inr (1, [.ref q3, .ref q4, .ref q5, .ref q6, .ref q7, .ref q8, .ref q9, .ref q10, .int S1.2.2.2.2.2.2.2.2.1, .int S1.2.2.2.2.2.2.2.2.2])), (q3, .inl (cI, 301, .inl S1.1)), (q4, .inl (cI, 301, .inl S1.2.1)), (q5, .inl (cI, 301, .inl S1.2.2.1)), (q6, .inl (cI, 301, .inl S1.2.2.2.1)), (q7, .inl (cI, 301, .inl S1.2.2.2.2.1)), (q8, .inl (cI, 301, .inl S1.2.2.2.2.2.1)), (q9, .inl (cI, 301, .inl S1.2.2.2.2.2.2.1)), (q10, .inl (cI, 300, .inl S1.2.2.2.2.2.2.2.1))] : va_W) = [(q0, .inr (3, [.ref q2, .ref q1])), (q1, .inl (cQ, 4, .inr (.inr (.inr (.inr S0))))), (q2, .inr (1, [.ref q3, .ref q4, .ref q5, .ref q6, .ref q7, .ref q8, .ref q9, .ref q10, .int S1.2.2.2.2.2.2.2.2.1, .int S1.2.2.2.2.2.2.2.2.2])), (q3, .inl (cI, 301, .inl S1.1)), (q4, .inl (cI, 301, .inl S1.2.1)), (q5, .inl (cI, 301, .inl S1.2.2.1)), (q6, .inl (cI, 301, .inl S1.2.2.2.1)), (q7, .inl (cI, 301, .inl S1.2.2.2.2.1)), (q8, .inl (cI, 301, .inl S1.2.2.2.2.2.1)), (q9, .inl (cI, 301, .inl S1.2.2.2.2.2.2.1)), (q10, .inl (cI, 300, .inl S1.2.2.2.2.2.2.2.1)), (q11, .inr (2, [.ref q12, .ref q13, .int S2.2.2.1, .int S2.2.2.2.1, .int S2.2.2.2.2])), (q12, .inl (cI, 301, .inl S2.1)), (q13, .inr (0, [.ref q14, .ref q15, .ref q16, .ref q17, .int S2.2.1.2.2.2.2])), (q14, .inl (cZ, 40, .inl S2.2.1.1)), (q15, .inl (cI, 40, .inl S2.2.1.2.1)), (q16, .inl (cI, 40, .inl S2.2.1.2.2.1)), (q17, .inl (cI, 40, .inl S2.2.1.2.2.2.1))] from rfl).trans rfl
theorem hC_B_remove_10 (cI cZ cQ : ClassId) (q0 q1 q2 q3 q4 q5 q6 q7 q8 q9 q10 q11 q12 q13 q14 q15 q16 q17 : Nat) (S0 : (Nat → Option Nat)) (S1 : cL) (S2 : cP) : ([0, 1, 2, 3, 4, 5, 6, 7, 8, 9, 10] : List Nat).map (fun i => (wB cI cZ cQ q0 q1 q2 S0 ++ wL cI cZ q2 q3 q4 q5 q6 q7 q8 q9 q10 S1 ++ wP cI cZ q11 q12 q13 q14 q15 q16 q17 S2 : va_W)[i]?) = (wB cI cZ cQ q0 q1 q2 S0 ++ wL cI cZ q2 q3 q4 q5 q6 q7 q8 q9 q10 S1 : va_W).map some := rfl
theorem hU_B_remove_10 (cI cZ cQ : ClassId) (q0 q1 q2 q3 q4 q5 q6 q7 q8 q9 q10 q11 q12 q13 q14 q15 q16 q17 : Nat) (S0 : (Nat → Option Nat)) (S1 : cL) (S2 : cP)  : vz_put (wB cI cZ cQ q0 q1 q2 S0 ++ wL cI cZ q2 q3 q4 q5 q6 q7 q8 q9 q10 S1 ++ wP cI cZ q11 q12 q13 q14 q15 q16 q17 S2 : va_W) [0, 1, 2, 3, 4, 5, 6, 7, 8, 9, 10] (wB cI cZ cQ q0 q1 q2 S0 ++ wL cI cZ q2 q3 q4 q5 q6 q7 q8 q9 q10 S1 : va_W) = wB cI cZ cQ q0 q1 q2 S0 ++ wL cI cZ q2 q3 q4 q5 q6 q7 q8 q9 q10 S1 ++ wP cI cZ q11 q12 q13 q14 q15 q16 q17 S2 := (show vz_put ([(q0, .inr (3, [.ref q2, .ref q1])), (q1, .inl (cQ, 4, .inr (.inr (.inr (.inr S0))))), (q2, .inr (1, [.ref q3, .ref q4, .ref q5, .ref q6, .ref q7, .ref q8, .ref q9, .ref q10, .int S1.2.2.2.2.2.2.2.2.1, .int S1.2.2.2.2.2.2.2.2.2])), (q3, .inl (cI, 301, .inl S1.1)), (q4, .inl (cI, 301, .inl S1.2.1)), (q5, .inl (cI, 301, .inl S1.2.2.1)), (q6, .inl (cI, 301, .inl S1.2.2.2.1)), (q7, .inl (cI, 301, .inl S1.2.2.2.2.1)), (q8, .inl (cI, 301, .inl S1.2.2.2.2.2.1)), (q9, .inl (cI, 301, .inl S1.2.2.2.2.2.2.1)), (q10, .inl (cI, 300, .inl S1.2.2.2.2.2.2.2.1)), (q11, .inr (2, [.ref q12, .ref q13, .int S2.2.2.1, .int S2.2.2.2.1, .int S2.2.2.2.2])), (q12, .inl (cI, 301, .inl S2.1)), (q13, .inr (0, [.ref q14, .ref q15, .ref q16, .ref q17, .int S2.2.1.2.2.2.2])), (q14, .inl (cZ, 40, .inl S2.2.1.1)), (q15, .inl (cI, 40, .inl S2.2.1.2.1)), (q16, .inl (cI, 40, .inl S2.2.1.2.2.1)), (q17, .inl (cI, 40, .inl S2.2.1.2.2.2.1))] : va_W) [0, 1, 2, 3, 4, 5, 6, 7, 8, 9, 10] ([(q0, .inr (3, [.ref q2, .ref q1])), (q1, .inl (cQ, 4, .inr (.inr (.inr (.inr S0))))), (q2, .inr (1, [.ref q3, .ref q4, .ref q5, .ref q6, .ref q7, .ref q8, .ref q9, .ref q10, .int S1.2.2.2.2.2.2.2.2.1, .int S1.2.2.2.2.2.2.2.2.2])), (q3, .inl (cI, 301, .inl S1.1)), (q4, .inl (cI, 301, .inl S1.2.1)), (q5, .inl (cI, 301, .inl S1.2.2.1)), (q6, .inl (cI, 301, .inl S1.2.2.2.1)), (q7, .inl (cI, 301, .inl S1.2.2.2.2.1)), (q8, .inl (cI, 301, .inl S1.2.2.2.2.2.1)), (q9, .inl (cI, 301, .inl S1.2.2.2.2.2.2.1)), (q10, .inl (cI, 300, .inl S1.2.2.2.2.2.2.2.1))] : va_W) = [(q0, .inr (3, [.ref q2, .ref q1])), (q1, .inl (cQ, 4, .inr (.inr (.inr (.inr S0))))), (q2, .inr (1, [.ref q3, .ref q4, .ref q5, .ref q6, .ref q7, .ref q8, .ref q9, .ref q10, .int S1.2.2.2.2.2.2.2.2.1, .int S1.2.2.2.2.2.2.2.2.2])), (q3, .inl (cI, 301, .inl S1.1)), (q4, .inl (cI, 301, .inl S1.2.1)), (q5, .inl (cI, 301, .inl S1.2.2.1)), (q6, .inl (cI, 301, .inl S1.2.2.2.1)), (q7, .inl (cI, 301, .inl S1.2.2.2.2.1)), (q8, .inl (cI, 301, .inl S1.2.2.2.2.2.1)), (q9, .inl (cI, 301, .inl S1.2.2.2.2.2.2.1)), (q10, .inl (cI, 300, .inl S1.2.2.2.2.2.2.2.1)), (q11, .inr (2, [.ref q12, .ref q13, .int S2.2.2.1, .int S2.2.2.2.1, .int S2.2.2.2.2])), (q12, .inl (cI, 301, .inl S2.1)), (q13, .inr (0, [.ref q14, .ref q15, .ref q16, .ref q17, .int S2.2.1.2.2.2.2])), (q14, .inl (cZ, 40, .inl S2.2.1.1)), (q15, .inl (cI, 40, .inl S2.2.1.2.1)), (q16, .inl (cI, 40, .inl S2.2.1.2.2.1)), (q17, .inl (cI, 40, .inl S2.2.1.2.2.2.1))] from rfl).trans rfl
theorem hC_B_remove_52 (cI cZ cQ : ClassId) (q0 q1 q2 q3 q4 q5 q6 q7 q8 q9 q10 q11 q12 q13 q14 q15 q16 q17 : Nat) (S0 : (Nat → Option Nat)) (S1 : cL) (S2 : cP) : ([2, 3, 4, 5, 6, 7, 8, 9, 10] : List Nat).map (fun i => (wB cI cZ cQ q0 q1 q2 S0 ++ wL cI cZ q2 q3 q4 q5 q6 q7 q8 q9 q10 S1 ++ wP cI cZ q11 q12 q13 q14 q15 q16 q17 S2 : va_W)[i]?) = (wL cI cZ q2 q3 q4 q5 q6 q7 q8 q9 q10 S1 : va_W).map some := rfl
theorem hU_B_remove_52 (cI cZ cQ : ClassId) (q0 q1 q2 q3 q4 q5 q6 q7 q8 q9 q10 q11 q12 q13 q14 q15 q16 q17 : Nat) (S0 : (Nat → Option Nat)) (S1 : cL) (S2 : cP) (R0 : cL) : vz_put (wB cI cZ cQ q0 q1 q2 S0 ++ wL cI cZ q2 q3 q4 q5 q6 q7 q8 q9 q10 S1 ++ wP cI cZ q11 q12 q13 q14 q15 q16 q17 S2 : va_W) [2, 3, 4, 5, 6, 7, 8, 9, 10] (wL cI cZ q2 q3 q4 q5 q6 q7 q8 q9 q10 R0 : va_W) = wB cI cZ cQ q0 q1 q2 S0 ++ wL cI cZ q2 q3 q4 q5 q6 q7 q8 q9 q10 R0 ++ wP cI cZ q11 q12 q13 q14 q15 q16 q17 S2 := (show vz_put ([(q0, .inr (3, [.ref q2, .ref q1])), (q1, .inl (cQ, 4, .inr (.inr (.inr (.inr S0))))), (q2, .inr (1, [.ref q3, .ref q4, .ref q5, .ref q6, .ref q7, .ref q8, .ref q9, .ref q10, .int S1.2.2.2.2.2.2.2.2.1, .int S1.2.2.2.2.2.2.2.2.2])), (q3, .inl (cI, 301, .inl S1.1)), (q4, .inl (cI, 301, .inl S1.2.1)), (q5, .inl (cI, 301, .inl S1.2.2.1)), (q6, .inl (cI, 301, .inl S1.2.2.2.1)), (q7, .inl (cI, 301, .inl S1.2.2.2.2.1)), (q8, .inl (cI, 301, .inl S1.2.2.2.2.2.1)), (q9, .inl (cI, 301, .inl S1.2.2.2.2.2.2.1)), (q10, .inl (cI, 300, .inl S1.2.2.2.2.2.2.2.1)), (q11, .inr (2, [.ref q12, .ref q13, .int S2.2.2.1, .int S2.2.2.2.1, .int S2.2.2.2.2])), (q12, .inl (cI, 301, .inl S2.1)), (q13, .inr (0, [.ref q14, .ref q15, .ref q16, .ref q17, .int S2.2.1.2.2.2.2])), (q14, .inl (cZ, 40, .inl S2.2.1.1)), (q15, .inl (cI, 40, .inl S2.2.1.2.1)), (q16, .inl (cI, 40, .inl S2.2.1.2.2.1)), (q17, .inl (cI, 40, .inl S2.2.1.2.2.2.1))] : va_W) [2, 3, 4, 5, 6, 7, 8, 9, 10] ([(q2, .inr (1, [.ref q3, .ref q4, .ref q5, .ref q6, .ref q7, .ref q8, .ref q9, .ref q10, .int R0.2.2.2.2.2.2.2.2.1, .int R0.2.2.2.2.2.2.2.2.2])), (q3, .inl (cI, 301, .inl R0.1)), (q4, .inl (cI, 301, .inl R0.2.1)), (q5, .inl (cI, 301, .inl R0.2.2.1)), (q6, .inl (cI, 301, .inl R0.2.2.2.1)), (q7, .inl (cI, 301, .inl R0.2.2.2.2.1)), (q8, .inl (cI, 301, .inl R0.2.2.2.2.2.1)), (q9, .inl (cI, 301, .inl R0.2.2.2.2.2.2.1)), (q10, .inl (cI, 300, .inl R0.2.2.2.2.2.2.2.1))] : va_W) = [(q0, .inr (3, [.ref q2, .ref q1])), (q1, .inl (cQ, 4, .inr (.inr (.inr (.inr S0))))), (q2, .inr (1, [.ref q3, .ref q4, .ref q5, .ref q6, .ref q7, .ref q8, .ref q9, .ref q10, .int R0.2.2.2.2.2.2.2.2.1, .int R0.2.2.2.2.2.2.2.2.2])), (q3, .inl (cI, 301, .inl R0.1)), (q4, .inl (cI, 301, .inl R0.2.1)), (q5, .inl (cI, 301, .inl R0.2.2.1)), (q6, .inl (cI, 301, .inl R0.2.2.2.1)), (q7, .inl (cI, 301, .inl R0.2.2.2.2.1)), (q8, .inl (cI, 301, .inl R0.2.2.2.2.2.1)), (q9, .inl (cI, 301, .inl R0.2.2.2.2.2.2.1)), (q10, .inl (cI, 300, .inl R0.2.2.2.2.2.2.2.1)), (q11, .inr (2, [.ref q12, .ref q13, .int S2.2.2.1, .int S2.2.2.2.1, .int S2.2.2.2.2])), (q12, .inl (cI, 301, .inl S2.1)), (q13, .inr (0, [.ref q14, .ref q15, .ref q16, .ref q17, .int S2.2.1.2.2.2.2])), (q14, .inl (cZ, 40, .inl S2.2.1.1)), (q15, .inl (cI, 40, .inl S2.2.1.2.1)), (q16, .inl (cI, 40, .inl S2.2.1.2.2.1)), (q17, .inl (cI, 40, .inl S2.2.1.2.2.2.1))] from rfl).trans rfl
theorem hC_B_remove_55 (cI cZ cQ : ClassId) (q0 q1 q2 q3 q4 q5 q6 q7 q8 q9 q10 q11 q12 q13 q14 q15 q16 q17 : Nat) (S0 : (Nat → Option Nat)) (S1 : cL) (S2 : cP) : ([0, 1, 2, 3, 4, 5, 6, 7, 8, 9, 10, 11, 12, 13, 14, 15, 16, 17] : List Nat).map (fun i => (wB cI cZ cQ q0 q1 q2 S0 ++ wL cI cZ q2 q3 q4 q5 q6 q7 q8 q9 q10 S1 ++ wP cI cZ q11 q12 q13 q14 q15 q16 q17 S2 : va_W)[i]?) = (wB cI cZ cQ q0 q1 q2 S0 ++ wL cI cZ q2 q3 q4 q5 q6 q7 q8 q9 q10 S1 ++ wP cI cZ q11 q12 q13 q14 q15 q16 q17 S2 : va_W).map some := rfl
theorem hU_B_remove_55 (cI cZ cQ : ClassId) (q0 q1 q2 q3 q4 q5 q6 q7 q8 q9 q10 q11 q12 q13 q14 q15 q16 q17 : Nat) (S0 : (Nat → Option Nat)) (S1 : cL) (S2 : cP) (R2 : cP) : vz_put (wB cI cZ cQ q0 q1 q2 S0 ++ wL cI cZ q2 q3 q4 q5 q6 q7 q8 q9 q10 S1 ++ wP cI cZ q11 q12 q13 q14 q15 q16 q17 S2 : va_W) [0, 1, 2, 3, 4, 5, 6, 7, 8, 9, 10, 11, 12, 13, 14, 15, 16, 17] (wB cI cZ cQ q0 q1 q2 S0 ++ wL cI cZ q2 q3 q4 q5 q6 q7 q8 q9 q10 S1 ++ wP cI cZ q11 q12 q13 q14 q15 q16 q17 R2 : va_W) = wB cI cZ cQ q0 q1 q2 S0 ++ wL cI cZ q2 q3 q4 q5 q6 q7 q8 q9 q10 S1 ++ wP cI cZ q11 q12 q13 q14 q15 q16 q17 R2 := (show vz_put ([(q0, .inr (3, [.ref q2, .ref q1])), (q1, .inl (cQ, 4, .inr (.inr (.inr (.inr S0))))), (q2, .inr (1, [.ref q3, .ref q4, .ref q5, .ref q6, .ref q7, .ref q8, .ref q9, .ref q10, .int S1.2.2.2.2.2.2.2.2.1, .int S1.2.2.2.2.2.2.2.2.2])), (q3, .inl (cI, 301, .inl S1.1)), (q4, .inl (cI, 301, .inl S1.2.1)), (q5, .inl (cI, 301, .inl S1.2.2.1)), (q6, .inl (cI, 301, .inl S1.2.2.2.1)), (q7, .inl (cI, 301, .inl S1.2.2.2.2.1)), (q8, .inl (cI, 301, .inl S1.2.2.2.2.2.1)), (q9, .inl (cI, 301, .inl S1.2.2.2.2.2.2.1)), (q10, .inl (cI, 300, .inl S1.2.2.2.2.2.2.2.1)), (q11, .inr (2, [.ref q12, .ref q13, .int S2.2.2.1, .int S2.2.2.2.1, .int S2.2.2.2.2])), (q12, .inl (cI, 301, .inl S2.1)), (q13, .inr (0, [.ref q14, .ref q15, .ref q16, .ref q17, .int S2.2.1.2.2.2.2])), (q14, .inl (cZ, 40, .inl S2.2.1.1)), (q15, .inl (cI, 40, .inl S2.2.1.2.1)), (q16, .inl (cI, 40, .inl S2.2.1.2.2.1)), (q17, .inl (cI, 40, .inl S2.2.1.2.2.2.1))] : va_W) [0, 1, 2, 3, 4, 5, 6, 7, 8, 9, 10, 11, 12, 13, 14, 15, 16, 17] ([(q0, .inr (3, [.ref q2, .ref q1])), (q1, .inl (cQ, 4, .inr (.inr (.inr (.inr S0))))), (q2, .inr (1, [.ref q3, .ref q4, .ref q5, .ref q6, .ref q7, .ref q8, .ref q9, .ref q10, .int S1.2.2.2.2.2.2.2.2.1, .int S1.2.2.2.2.2.2.2.2.2])), (q3, .inl (cI, 301, .inl S1.1)), (q4, .inl (cI, 301, .inl S1.2.1)), (q5, .inl (cI, 301, .inl S1.2.2.1)), (q6, .inl (cI, 301, .inl S1.2.2.2.1)), (q7, .inl (cI, 301, .inl S1.2.2.2.2.1)), (q8, .inl (cI, 301, .inl S1.2.2.2.2.2.1)), (q9, .inl (cI, 301, .inl S1.2.2.2.2.2.2.1)), (q10, .inl (cI, 300, .inl S1.2.2.2.2.2.2.2.1)), (q11, .inr (2, [.ref q12, .ref q13, .int R2.2.2.1, .int R2.2.2.2.1, .int R2.2.2.2.2])), (q12, .inl (cI, 301, .inl R2.1)), (q13, .inr (0, [.ref q14, .ref q15, .ref q16, .ref q17, .int R2.2.1.2.2.2.2])), (q14, .inl (cZ, 40, .inl R2.2.1.1)), (q15, .inl (cI, 40, .inl R2.2.1.2.1)), (q16, .inl (cI, 40, .inl R2.2.1.2.2.1)), (q17, .inl (cI, 40, .inl R2.2.1.2.2.2.1))] : va_W) = [(q0, .inr (3, [.ref q2, .ref q1])), (q1, .inl (cQ, 4, .inr (.inr (.inr (.inr S0))))), (q2, .inr (1, [.ref q3, .ref q4, .ref q5, .ref q6, .ref q7, .ref q8, .ref q9, .ref q10, .int S1.2.2.2.2.2.2.2.2.1, .int S1.2.2.2.2.2.2.2.2.2])), (q3, .inl (cI, 301, .inl S1.1)), (q4, .inl (cI, 301, .inl S1.2.1)), (q5, .inl (cI, 301, .inl S1.2.2.1)), (q6, .inl (cI, 301, .inl S1.2.2.2.1)), (q7, .inl (cI, 301, .inl S1.2.2.2.2.1)), (q8, .inl (cI, 301, .inl S1.2.2.2.2.2.1)), (q9, .inl (cI, 301, .inl S1.2.2.2.2.2.2.1)), (q10, .inl (cI, 300, .inl S1.2.2.2.2.2.2.2.1)), (q11, .inr (2, [.ref q12, .ref q13, .int R2.2.2.1, .int R2.2.2.2.1, .int R2.2.2.2.2])), (q12, .inl (cI, 301, .inl R2.1)), (q13, .inr (0, [.ref q14, .ref q15, .ref q16, .ref q17, .int R2.2.1.2.2.2.2])), (q14, .inl (cZ, 40, .inl R2.2.1.1)), (q15, .inl (cI, 40, .inl R2.2.1.2.1)), (q16, .inl (cI, 40, .inl R2.2.1.2.2.1)), (q17, .inl (cI, 40, .inl R2.2.1.2.2.2.1))] from rfl).trans rfl
def m_B_remove (L : cL) (P : cP) (x1 : Int32) (x2 : Int32) (x3 : Int32) : Int32 × cL × cP := (if (m_B_mayWrite L x1) = 0 then (-1, L, P) else (if (m_B_isMade L x2) = 0 then (-1, L, P) else (if x3 = 0 then ((m_B_told (m_L_add L 2 x1 (P.2.2.2.1 + 1) x2 (-1) (-1)).2 P x1 (m_L_add L 2 x1 (P.2.2.2.1 + 1) x2 (-1) (-1)).1).1, (m_L_add L 2 x1 (P.2.2.2.1 + 1) x2 (-1) (-1)).2, (m_B_told (m_L_add L 2 x1 (P.2.2.2.1 + 1) x2 (-1) (-1)).2 P x1 (m_L_add L 2 x1 (P.2.2.2.1 + 1) x2 (-1) (-1)).1).2) else ((m_B_told (m_L_add L 3 x1 (P.2.2.2.1 + 1) x2 (-1) (-1)).2 P x1 (m_L_add L 3 x1 (P.2.2.2.1 + 1) x2 (-1) (-1)).1).1, (m_L_add L 3 x1 (P.2.2.2.1 + 1) x2 (-1) (-1)).2, (m_B_told (m_L_add L 3 x1 (P.2.2.2.1 + 1) x2 (-1) (-1)).2 P x1 (m_L_add L 3 x1 (P.2.2.2.1 + 1) x2 (-1) (-1)).1).2))))
set_option maxHeartbeats 1000000 in
set_option maxRecDepth 100000 in
theorem c_B_remove (l : Launch) (dC : Nat → ClassId) (dI : Nat → Nat → Nat) (cI cZ cQ : ClassId) (b0 : Nat) (b1 : Nat) (F : Nat → Option Nat) (u0 : Nat) (u1 : Nat) (u2 : Nat) (u3 : Nat) (u4 : Nat) (u5 : Nat) (u6 : Nat) (u7 : Nat) (u8 : Nat) (L : cL) (p0 : Nat) (p1 : Nat) (h0 : Nat) (a1 : Nat) (a2 : Nat) (a3 : Nat) (a4 : Nat) (P : cP) (x1 : Int32) (x2 : Int32) (x3 : Int32) (hF : 0 ≤ x1.toInt → x1.toInt < 4 → F x1.toNatClampNeg = some p0) (hL : okL L) (hz : 0 ≤ x2.toInt → True) (hA : (0 ≤ x1.toInt ∧ x1.toInt < 4) → L.2.2.2.2.2.2.2.2.1.toInt < 300 → (1 ≤ x2.toInt ∧ x2.toInt ≤ L.2.2.2.2.2.2.2.2.2.toInt) → ∀ y : Int32, y = 2 ∨ y = 3 → okTold (m_L_add L y x1 (P.2.2.2.1 + 1) x2 (-1) (-1)).2 P (m_L_add L y x1 (P.2.2.2.1 + 1) x2 (-1) (-1)).1) : vz_C l (dC, dI) classes [(cI, .int), (cZ, .boolean), (cQ, .object "BinTrees$Person")] y_B_remove (Cond.code y_B_remove b_B_remove 5 (some .int) :: vz_tbl) ({ frames := 6, cells := 0, slots := 0, locals := 141 }) [.ref b0, .int x1, .int x2, .int x3] (wB cI cZ cQ b0 b1 u0 F ++ wL cI cZ u0 u1 u2 u3 u4 u5 u6 u7 u8 L ++ wP cI cZ p0 p1 h0 a1 a2 a3 a4 P) (some (.int ((m_B_remove L P x1 x2 x3).1))) (wB cI cZ cQ b0 b1 u0 F ++ wL cI cZ u0 u1 u2 u3 u4 u5 u6 u7 u8 ((m_B_remove L P x1 x2 x3).2.1) ++ wP cI cZ p0 p1 h0 a1 a2 a3 a4 ((m_B_remove L P x1 x2 x3).2.2)) := by
  generalize hres : (m_B_remove L P x1 x2 x3) = RES
  refine vz_C.of (by decide) (Nat.le_of_ble_eq_true rfl) ?_
  intro p e s m below meth c ls E hl hK hP hD hS
  obtain ⟨hx, hb, hr, hml, hown, hT, hlocks⟩ := E
  obtain ⟨Q, hQ⟩ : ∃ Q, Q = MQ below (vz_Q (dC, dI) classes (wB cI cZ cQ b0 b1 u0 F ++ wL cI cZ u0 u1 u2 u3 u4 u5 u6 u7 u8 L ++ wP cI cZ p0 p1 h0 a1 a2 a3 a4 P) (some (.int RES.1)) (wB cI cZ cQ b0 b1 u0 F ++ wL cI cZ u0 u1 u2 u3 u4 u5 u6 u7 u8 RES.2.1 ++ wP cI cZ p0 p1 h0 a1 a2 a3 a4 RES.2.2)) ([.ref b0, .int x1, .int x2, .int x3] : List Value).toArray s 0 0 (vz_A (wB cI cZ cQ b0 b1 u0 F ++ wL cI cZ u0 u1 u2 u3 u4 u5 u6 u7 u8 L ++ wP cI cZ p0 p1 h0 a1 a2 a3 a4 P)) := ⟨_, rfl⟩
  rw [← hQ]
  have hl : lv_has ls 5 [(0, .ref b0), (1, .int x1), (2, .int x2), (3, .int x3)] := hl
  have T0 := ti_0
  have T1 := ti_1
  have Tm := ti_m1
  have T8 := ti_8
  have T39 := ti_39
  have T40 := ti_40
  have T4 := ti_4
  have T300 := ti_300
  have hS0 := hS
  refine lv_aload_n hx hb d_B_remove_0 rfl (lv_at hl 0 rfl) ?_
  refine lv_iload_n hx hb d_B_remove_1 rfl (lv_at hl 1 rfl) ?_
  have hc := c_B_mayWrite l dC dI cI cZ cQ b0 b1 F u0 u1 u2 u3 u4 u5 u6 u7 u8 L x1 
  generalize hg_2 : (m_B_mayWrite L x1) = g_2 at hc
  refine vz_callV (As := [.int x1]) (rest := []) ⟨hx, hb, hml, hown, hT⟩ hc (vz_goodV kw_139 kw_141 ks_0 kw_1 kw_142) ⟨rfl, hd_B_mayWrite⟩ ⟨⟨rfl, rfl⟩, Nat.le_of_ble_eq_true rfl, Nat.le_of_ble_eq_true rfl⟩ hK hP hD hS [0, 1, 2, 3, 4, 5, 6, 7, 8, 9, 10] rfl (hC_B_remove_2 cI cZ cQ b0 b1 u0 u1 u2 u3 u4 u5 u6 u7 u8 p0 p1 h0 a1 a2 a3 a4 F L P) (hF_B_mayWrite cI cZ cQ _ _ _ _) 0 3 rfl rfl rfl rfl hl.1 rfl (Nat.le_of_ble_eq_true rfl) ⟨Nat.zero_le _, Nat.zero_le _⟩ d_B_remove_2 (fun H locs hP hD hS => ?_)
  have hP : va_P (dC, dI) classes (wB cI cZ cQ b0 b1 u0 F ++ wL cI cZ u0 u1 u2 u3 u4 u5 u6 u7 u8 L ++ wP cI cZ p0 p1 h0 a1 a2 a3 a4 P) H := vz_reP (hU_B_remove_2 cI cZ cQ b0 b1 u0 u1 u2 u3 u4 u5 u6 u7 u8 p0 p1 h0 a1 a2 a3 a4 F L P ) hP
  have hD : va_D (vz_A (wB cI cZ cQ b0 b1 u0 F ++ wL cI cZ u0 u1 u2 u3 u4 u5 u6 u7 u8 L ++ wP cI cZ p0 p1 h0 a1 a2 a3 a4 P)) (wB cI cZ cQ b0 b1 u0 F ++ wL cI cZ u0 u1 u2 u3 u4 u5 u6 u7 u8 L ++ wP cI cZ p0 p1 h0 a1 a2 a3 a4 P) := vz_reD (hU_B_remove_2 cI cZ cQ b0 b1 u0 u1 u2 u3 u4 u5 u6 u7 u8 p0 p1 h0 a1 a2 a3 a4 F L P ) hD
  refine W.eq (g2 := F0 m 5 ls [.int g_2]) rfl ?_
  refine lv_if_eq (tgt := 16) hx hb d_B_remove_5 (by decide) (fun c_5 => ?_) (fun c_5 => ?_)
  · have z_5 : g_2.toInt = (0 : Int32).toInt := congrArg Int32.toInt c_5
    refine lv_iconst (v := -1) hx hb d_B_remove_16 (by decide) ?_
    rw [m_B_remove] at hres
    try rw [hg_2] at hres
    rw [if_pos c_5] at hres
    subst hres
    subst hQ
    exact vz_iret hx hb hr hlocks d_B_remove_17 hS rfl hP
  · have z_5 : ¬ g_2.toInt = (0 : Int32).toInt := mt Int32.toInt_inj.mp c_5
    refine lv_aload_n hx hb d_B_remove_8 rfl (lv_at hl 0 rfl) ?_
    refine lv_iload_n hx hb d_B_remove_9 rfl (lv_at hl 2 rfl) ?_
    have hc := c_B_isMade l dC dI cI cZ cQ b0 b1 F u0 u1 u2 u3 u4 u5 u6 u7 u8 L x2 
    generalize hg_10 : (m_B_isMade L x2) = g_10 at hc
    refine vz_callV (As := [.int x2]) (rest := []) ⟨hx, hb, hml, hown, hT⟩ hc (vz_goodV kw_227 kw_229 ks_9 kw_1 kw_230) ⟨rfl, hd_B_isMade⟩ ⟨⟨rfl, rfl⟩, Nat.le_of_ble_eq_true rfl, Nat.le_of_ble_eq_true rfl⟩ hK hP hD hS [0, 1, 2, 3, 4, 5, 6, 7, 8, 9, 10] rfl (hC_B_remove_10 cI cZ cQ b0 b1 u0 u1 u2 u3 u4 u5 u6 u7 u8 p0 p1 h0 a1 a2 a3 a4 F L P) (hF_B_isMade cI cZ cQ _ _ _ _) 0 3 rfl rfl rfl rfl hl.1 rfl (Nat.le_of_ble_eq_true rfl) ⟨Nat.zero_le _, Nat.zero_le _⟩ d_B_remove_10 (fun H locs hP hD hS => ?_)
    have hP : va_P (dC, dI) classes (wB cI cZ cQ b0 b1 u0 F ++ wL cI cZ u0 u1 u2 u3 u4 u5 u6 u7 u8 L ++ wP cI cZ p0 p1 h0 a1 a2 a3 a4 P) H := vz_reP (hU_B_remove_10 cI cZ cQ b0 b1 u0 u1 u2 u3 u4 u5 u6 u7 u8 p0 p1 h0 a1 a2 a3 a4 F L P ) hP
    have hD : va_D (vz_A (wB cI cZ cQ b0 b1 u0 F ++ wL cI cZ u0 u1 u2 u3 u4 u5 u6 u7 u8 L ++ wP cI cZ p0 p1 h0 a1 a2 a3 a4 P)) (wB cI cZ cQ b0 b1 u0 F ++ wL cI cZ u0 u1 u2 u3 u4 u5 u6 u7 u8 L ++ wP cI cZ p0 p1 h0 a1 a2 a3 a4 P) := vz_reD (hU_B_remove_10 cI cZ cQ b0 b1 u0 u1 u2 u3 u4 u5 u6 u7 u8 p0 p1 h0 a1 a2 a3 a4 F L P ) hD
    refine W.eq (g2 := F0 m 13 ls [.int g_10]) rfl ?_
    refine lv_if_ne (tgt := 18) hx hb d_B_remove_13 (by decide) (fun c_13 => ?_) (fun c_13 => ?_)
    · have z_13 : ¬ g_10.toInt = (0 : Int32).toInt := mt Int32.toInt_inj.mp c_13
      refine lv_iload_n hx hb d_B_remove_18 rfl (lv_at hl 3 rfl) ?_
      refine lv_if_eq (tgt := 26) hx hb d_B_remove_19 (by decide) (fun c_19 => ?_) (fun c_19 => ?_)
      · have z_19 : x3.toInt = (0 : Int32).toInt := congrArg Int32.toInt c_19
        refine lv_iconst (v := 2) hx hb d_B_remove_26 (by decide) ?_
        refine lv_istore (lv' := [(4, .int 2), (0, .ref b0), (1, .int x1), (2, .int x2), (3, .int x3)]) hx hb d_B_remove_27 hl (by decide) rfl (fun ls hl => ?_)
        refine lv_aload_n hx hb d_B_remove_29 rfl (lv_at hl 1 rfl) ?_
        refine lv_iload_n hx hb d_B_remove_30 rfl (lv_at hl 2 rfl) ?_
        refine lv_aload_n hx hb d_B_remove_31 rfl (lv_at hl 1 rfl) ?_
        refine va_get (D := (dC, dI)) (ci := 3) (v := .ref u0) (C := R_B) (T := F_B) (N := 2) hx hb hT i_B hown hK hP 0 rfl rfl 0 (by decide) (hT _ kw_128) (fun _ h9 => h9) rfl d_B_remove_32 ?_
        refine lv_iload hx hb d_B_remove_35 (lv_at hl 0 rfl) ?_
        refine lv_iload_n hx hb d_B_remove_37 rfl (lv_at hl 2 rfl) ?_
        refine lv_aload_n hx hb d_B_remove_38 rfl (lv_at hl 1 rfl) ?_
        refine va_get (D := (dC, dI)) (ci := 3) (v := .ref b1) (C := R_B) (T := F_B) (N := 2) hx hb hT i_B hown hK hP 0 rfl rfl 1 (by decide) (hT _ kw_129) (fun _ h9 => h9) rfl d_B_remove_39 ?_
        refine lv_iload_n hx hb d_B_remove_42 rfl (lv_at hl 2 rfl) ?_
        refine va_aldq hx hb hK hP 1 2 rfl rfl (by have hn := mw_t (L := L) (x1 := x1) (by rw [hg_2]; assumption); exact ti_vp (by omega) (by omega)) d_B_remove_43 ?_
        rw [show va_rf (F x1.toNatClampNeg) = .ref p0 from by have hn := mw_t (L := L) (x1 := x1) (by rw [hg_2]; assumption); rw [hF hn.1.1 hn.1.2]; rfl]
        refine va_get (D := (dC, dI)) (ci := 2) (v := .int P.2.2.2.1) (C := R_P) (T := F_P) (N := 5) hx hb hT i_P hown hK hP 11 rfl rfl 3 (by decide) (hT _ kw_113) (fun _ h9 => h9) rfl d_B_remove_44 ?_
        refine lv_iconst (v := 1) hx hb d_B_remove_47 (by decide) ?_
        refine lv_iadd hx hb d_B_remove_48 ?_
        refine lv_iload_n hx hb d_B_remove_49 rfl (lv_at hl 3 rfl) ?_
        refine lv_iconst (v := -1) hx hb d_B_remove_50 (by decide) ?_
        refine lv_iconst (v := -1) hx hb d_B_remove_51 (by decide) ?_
        have hc := c_L_add l dC dI cI cZ cQ u0 u1 u2 u3 u4 u5 u6 u7 u8 L 2 x1 (P.2.2.2.1 + 1) x2 (-1) (-1) (by have hn := mw_t (L := L) (x1 := x1) (by rw [hg_2]; assumption); have hl1 := hL.1; (try dsimp only); omega) (hL.2.1) (by intro h; first | exact absurd h (by decide) | (have := hz h; omega))
        generalize hg_52 : (m_L_add L 2 x1 (P.2.2.2.1 + 1) x2 (-1) (-1)) = g_52 at hc
        refine vz_callV (As := [.int 2, .int x1, .int (P.2.2.2.1 + 1), .int x2, .int (-1), .int (-1)]) (rest := [.int x1, .ref b0]) ⟨hx, hb, hml, hown, hT⟩ hc (vz_goodV kw_146 kw_147 kw_148 kw_2 kw_149) ⟨rfl, hd_L_add⟩ ⟨⟨rfl, rfl⟩, Nat.le_of_ble_eq_true rfl, Nat.le_of_ble_eq_true rfl⟩ hK hP hD hS [2, 3, 4, 5, 6, 7, 8, 9, 10] rfl (hC_B_remove_52 cI cZ cQ b0 b1 u0 u1 u2 u3 u4 u5 u6 u7 u8 p0 p1 h0 a1 a2 a3 a4 F L P) (hF_L_add cI cZ cQ _ _) 0 1 rfl rfl rfl rfl hl.1 rfl (Nat.le_of_ble_eq_true rfl) ⟨Nat.zero_le _, Nat.zero_le _⟩ d_B_remove_52 (fun H locs hP hD hS => ?_)
        have hP : va_P (dC, dI) classes (wB cI cZ cQ b0 b1 u0 F ++ wL cI cZ u0 u1 u2 u3 u4 u5 u6 u7 u8 g_52.2 ++ wP cI cZ p0 p1 h0 a1 a2 a3 a4 P) H := vz_reP (hU_B_remove_52 cI cZ cQ b0 b1 u0 u1 u2 u3 u4 u5 u6 u7 u8 p0 p1 h0 a1 a2 a3 a4 F L P g_52.2) hP
        have hD : va_D (vz_A (wB cI cZ cQ b0 b1 u0 F ++ wL cI cZ u0 u1 u2 u3 u4 u5 u6 u7 u8 L ++ wP cI cZ p0 p1 h0 a1 a2 a3 a4 P)) (wB cI cZ cQ b0 b1 u0 F ++ wL cI cZ u0 u1 u2 u3 u4 u5 u6 u7 u8 g_52.2 ++ wP cI cZ p0 p1 h0 a1 a2 a3 a4 P) := vz_reD (hU_B_remove_52 cI cZ cQ b0 b1 u0 u1 u2 u3 u4 u5 u6 u7 u8 p0 p1 h0 a1 a2 a3 a4 F L P g_52.2) hD
        refine W.eq (g2 := F0 m 55 ls [.int g_52.1, .int x1, .ref b0]) rfl ?_
        have hc := c_B_told l dC dI cI cZ cQ b0 b1 F u0 u1 u2 u3 u4 u5 u6 u7 u8 g_52.2 p0 p1 h0 a1 a2 a3 a4 P x1 g_52.1 (by have hn := mw_t (L := L) (x1 := x1) (by rw [hg_2]; assumption); exact hF hn.1.1 hn.1.2) (by have hn := mw_t (L := L) (x1 := x1) (by rw [hg_2]; assumption); exact hn.1) (by have hn := mw_t (L := L) (x1 := x1) (by rw [hg_2]; assumption); rw [← hg_52]; exact hA hn.1 hn.2 (by have hm := ism_t (L := L) (x1 := x2) (by rw [hg_10]; assumption); exact hm) _ (by first | exact Or.inl rfl | exact Or.inr rfl))
        generalize hg_55 : (m_B_told g_52.2 P x1 g_52.1) = g_55 at hc
        refine vz_callV (As := [.int x1, .int g_52.1]) (rest := []) ⟨hx, hb, hml, hown, hT⟩ hc (vz_goodV kw_158 kw_160 ks_3 kw_1 kw_161) ⟨rfl, hd_B_told⟩ ⟨⟨rfl, rfl⟩, Nat.le_of_ble_eq_true rfl, Nat.le_of_ble_eq_true rfl⟩ hK hP hD hS [0, 1, 2, 3, 4, 5, 6, 7, 8, 9, 10, 11, 12, 13, 14, 15, 16, 17] rfl (hC_B_remove_55 cI cZ cQ b0 b1 u0 u1 u2 u3 u4 u5 u6 u7 u8 p0 p1 h0 a1 a2 a3 a4 F g_52.2 P) (hF_B_told cI cZ cQ _ _ _ _ _ _) 0 3 rfl rfl rfl rfl hl.1 rfl (Nat.le_of_ble_eq_true rfl) ⟨Nat.zero_le _, Nat.zero_le _⟩ d_B_remove_55 (fun H locs hP hD hS => ?_)
        have hP : va_P (dC, dI) classes (wB cI cZ cQ b0 b1 u0 F ++ wL cI cZ u0 u1 u2 u3 u4 u5 u6 u7 u8 g_52.2 ++ wP cI cZ p0 p1 h0 a1 a2 a3 a4 g_55.2) H := vz_reP (hU_B_remove_55 cI cZ cQ b0 b1 u0 u1 u2 u3 u4 u5 u6 u7 u8 p0 p1 h0 a1 a2 a3 a4 F g_52.2 P g_55.2) hP
        have hD : va_D (vz_A (wB cI cZ cQ b0 b1 u0 F ++ wL cI cZ u0 u1 u2 u3 u4 u5 u6 u7 u8 L ++ wP cI cZ p0 p1 h0 a1 a2 a3 a4 P)) (wB cI cZ cQ b0 b1 u0 F ++ wL cI cZ u0 u1 u2 u3 u4 u5 u6 u7 u8 g_52.2 ++ wP cI cZ p0 p1 h0 a1 a2 a3 a4 g_55.2) := vz_reD (hU_B_remove_55 cI cZ cQ b0 b1 u0 u1 u2 u3 u4 u5 u6 u7 u8 p0 p1 h0 a1 a2 a3 a4 F g_52.2 P g_55.2) hD
        refine W.eq (g2 := F0 m 58 ls [.int g_55.1]) rfl ?_
        rw [m_B_remove] at hres
        try rw [hg_2] at hres
        rw [if_neg c_5] at hres
        try rw [hg_10] at hres
        rw [if_neg c_13, if_pos c_19] at hres
        try rw [hg_52] at hres
        try rw [hg_55] at hres
        subst hres
        subst hQ
        exact vz_iret hx hb hr hlocks d_B_remove_58 hS rfl hP
      · have z_19 : ¬ x3.toInt = (0 : Int32).toInt := mt Int32.toInt_inj.mp c_19
        refine lv_iconst (v := 3) hx hb d_B_remove_22 (by decide) ?_
        refine lv_goto (tgt := 27) hx hb d_B_remove_23 (by decide) ?_
        refine lv_istore (lv' := [(4, .int 3), (0, .ref b0), (1, .int x1), (2, .int x2), (3, .int x3)]) hx hb d_B_remove_27 hl (by decide) rfl (fun ls hl => ?_)
        refine lv_aload_n hx hb d_B_remove_29 rfl (lv_at hl 1 rfl) ?_
        refine lv_iload_n hx hb d_B_remove_30 rfl (lv_at hl 2 rfl) ?_
        refine lv_aload_n hx hb d_B_remove_31 rfl (lv_at hl 1 rfl) ?_
        refine va_get (D := (dC, dI)) (ci := 3) (v := .ref u0) (C := R_B) (T := F_B) (N := 2) hx hb hT i_B hown hK hP 0 rfl rfl 0 (by decide) (hT _ kw_128) (fun _ h9 => h9) rfl d_B_remove_32 ?_
        refine lv_iload hx hb d_B_remove_35 (lv_at hl 0 rfl) ?_
        refine lv_iload_n hx hb d_B_remove_37 rfl (lv_at hl 2 rfl) ?_
        refine lv_aload_n hx hb d_B_remove_38 rfl (lv_at hl 1 rfl) ?_
        refine va_get (D := (dC, dI)) (ci := 3) (v := .ref b1) (C := R_B) (T := F_B) (N := 2) hx hb hT i_B hown hK hP 0 rfl rfl 1 (by decide) (hT _ kw_129) (fun _ h9 => h9) rfl d_B_remove_39 ?_
        refine lv_iload_n hx hb d_B_remove_42 rfl (lv_at hl 2 rfl) ?_
        refine va_aldq hx hb hK hP 1 2 rfl rfl (by have hn := mw_t (L := L) (x1 := x1) (by rw [hg_2]; assumption); exact ti_vp (by omega) (by omega)) d_B_remove_43 ?_
        rw [show va_rf (F x1.toNatClampNeg) = .ref p0 from by have hn := mw_t (L := L) (x1 := x1) (by rw [hg_2]; assumption); rw [hF hn.1.1 hn.1.2]; rfl]
        refine va_get (D := (dC, dI)) (ci := 2) (v := .int P.2.2.2.1) (C := R_P) (T := F_P) (N := 5) hx hb hT i_P hown hK hP 11 rfl rfl 3 (by decide) (hT _ kw_113) (fun _ h9 => h9) rfl d_B_remove_44 ?_
        refine lv_iconst (v := 1) hx hb d_B_remove_47 (by decide) ?_
        refine lv_iadd hx hb d_B_remove_48 ?_
        refine lv_iload_n hx hb d_B_remove_49 rfl (lv_at hl 3 rfl) ?_
        refine lv_iconst (v := -1) hx hb d_B_remove_50 (by decide) ?_
        refine lv_iconst (v := -1) hx hb d_B_remove_51 (by decide) ?_
        have hc := c_L_add l dC dI cI cZ cQ u0 u1 u2 u3 u4 u5 u6 u7 u8 L 3 x1 (P.2.2.2.1 + 1) x2 (-1) (-1) (by have hn := mw_t (L := L) (x1 := x1) (by rw [hg_2]; assumption); have hl1 := hL.1; (try dsimp only); omega) (hL.2.1) (by intro h; first | exact absurd h (by decide) | (have := hz h; omega))
        generalize hg_52 : (m_L_add L 3 x1 (P.2.2.2.1 + 1) x2 (-1) (-1)) = g_52 at hc
        refine vz_callV (As := [.int 3, .int x1, .int (P.2.2.2.1 + 1), .int x2, .int (-1), .int (-1)]) (rest := [.int x1, .ref b0]) ⟨hx, hb, hml, hown, hT⟩ hc (vz_goodV kw_146 kw_147 kw_148 kw_2 kw_149) ⟨rfl, hd_L_add⟩ ⟨⟨rfl, rfl⟩, Nat.le_of_ble_eq_true rfl, Nat.le_of_ble_eq_true rfl⟩ hK hP hD hS [2, 3, 4, 5, 6, 7, 8, 9, 10] rfl (hC_B_remove_52 cI cZ cQ b0 b1 u0 u1 u2 u3 u4 u5 u6 u7 u8 p0 p1 h0 a1 a2 a3 a4 F L P) (hF_L_add cI cZ cQ _ _) 0 1 rfl rfl rfl rfl hl.1 rfl (Nat.le_of_ble_eq_true rfl) ⟨Nat.zero_le _, Nat.zero_le _⟩ d_B_remove_52 (fun H locs hP hD hS => ?_)
        have hP : va_P (dC, dI) classes (wB cI cZ cQ b0 b1 u0 F ++ wL cI cZ u0 u1 u2 u3 u4 u5 u6 u7 u8 g_52.2 ++ wP cI cZ p0 p1 h0 a1 a2 a3 a4 P) H := vz_reP (hU_B_remove_52 cI cZ cQ b0 b1 u0 u1 u2 u3 u4 u5 u6 u7 u8 p0 p1 h0 a1 a2 a3 a4 F L P g_52.2) hP
        have hD : va_D (vz_A (wB cI cZ cQ b0 b1 u0 F ++ wL cI cZ u0 u1 u2 u3 u4 u5 u6 u7 u8 L ++ wP cI cZ p0 p1 h0 a1 a2 a3 a4 P)) (wB cI cZ cQ b0 b1 u0 F ++ wL cI cZ u0 u1 u2 u3 u4 u5 u6 u7 u8 g_52.2 ++ wP cI cZ p0 p1 h0 a1 a2 a3 a4 P) := vz_reD (hU_B_remove_52 cI cZ cQ b0 b1 u0 u1 u2 u3 u4 u5 u6 u7 u8 p0 p1 h0 a1 a2 a3 a4 F L P g_52.2) hD
        refine W.eq (g2 := F0 m 55 ls [.int g_52.1, .int x1, .ref b0]) rfl ?_
        have hc := c_B_told l dC dI cI cZ cQ b0 b1 F u0 u1 u2 u3 u4 u5 u6 u7 u8 g_52.2 p0 p1 h0 a1 a2 a3 a4 P x1 g_52.1 (by have hn := mw_t (L := L) (x1 := x1) (by rw [hg_2]; assumption); exact hF hn.1.1 hn.1.2) (by have hn := mw_t (L := L) (x1 := x1) (by rw [hg_2]; assumption); exact hn.1) (by have hn := mw_t (L := L) (x1 := x1) (by rw [hg_2]; assumption); rw [← hg_52]; exact hA hn.1 hn.2 (by have hm := ism_t (L := L) (x1 := x2) (by rw [hg_10]; assumption); exact hm) _ (by first | exact Or.inl rfl | exact Or.inr rfl))
        generalize hg_55 : (m_B_told g_52.2 P x1 g_52.1) = g_55 at hc
        refine vz_callV (As := [.int x1, .int g_52.1]) (rest := []) ⟨hx, hb, hml, hown, hT⟩ hc (vz_goodV kw_158 kw_160 ks_3 kw_1 kw_161) ⟨rfl, hd_B_told⟩ ⟨⟨rfl, rfl⟩, Nat.le_of_ble_eq_true rfl, Nat.le_of_ble_eq_true rfl⟩ hK hP hD hS [0, 1, 2, 3, 4, 5, 6, 7, 8, 9, 10, 11, 12, 13, 14, 15, 16, 17] rfl (hC_B_remove_55 cI cZ cQ b0 b1 u0 u1 u2 u3 u4 u5 u6 u7 u8 p0 p1 h0 a1 a2 a3 a4 F g_52.2 P) (hF_B_told cI cZ cQ _ _ _ _ _ _) 0 3 rfl rfl rfl rfl hl.1 rfl (Nat.le_of_ble_eq_true rfl) ⟨Nat.zero_le _, Nat.zero_le _⟩ d_B_remove_55 (fun H locs hP hD hS => ?_)
        have hP : va_P (dC, dI) classes (wB cI cZ cQ b0 b1 u0 F ++ wL cI cZ u0 u1 u2 u3 u4 u5 u6 u7 u8 g_52.2 ++ wP cI cZ p0 p1 h0 a1 a2 a3 a4 g_55.2) H := vz_reP (hU_B_remove_55 cI cZ cQ b0 b1 u0 u1 u2 u3 u4 u5 u6 u7 u8 p0 p1 h0 a1 a2 a3 a4 F g_52.2 P g_55.2) hP
        have hD : va_D (vz_A (wB cI cZ cQ b0 b1 u0 F ++ wL cI cZ u0 u1 u2 u3 u4 u5 u6 u7 u8 L ++ wP cI cZ p0 p1 h0 a1 a2 a3 a4 P)) (wB cI cZ cQ b0 b1 u0 F ++ wL cI cZ u0 u1 u2 u3 u4 u5 u6 u7 u8 g_52.2 ++ wP cI cZ p0 p1 h0 a1 a2 a3 a4 g_55.2) := vz_reD (hU_B_remove_55 cI cZ cQ b0 b1 u0 u1 u2 u3 u4 u5 u6 u7 u8 p0 p1 h0 a1 a2 a3 a4 F g_52.2 P g_55.2) hD
        refine W.eq (g2 := F0 m 58 ls [.int g_55.1]) rfl ?_
        rw [m_B_remove] at hres
        try rw [hg_2] at hres
        rw [if_neg c_5] at hres
        try rw [hg_10] at hres
        rw [if_neg c_13, if_neg c_19] at hres
        try rw [hg_52] at hres
        try rw [hg_55] at hres
        subst hres
        subst hQ
        exact vz_iret hx hb hr hlocks d_B_remove_58 hS rfl hP
    · have z_13 : g_10.toInt = (0 : Int32).toInt := congrArg Int32.toInt c_13
      refine lv_iconst (v := -1) hx hb d_B_remove_16 (by decide) ?_
      rw [m_B_remove] at hres
      try rw [hg_2] at hres
      rw [if_neg c_5] at hres
      try rw [hg_10] at hres
      rw [if_pos c_13] at hres
      subst hres
      subst hQ
      exact vz_iret hx hb hr hlocks d_B_remove_17 hS rfl hP
