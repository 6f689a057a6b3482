theorem d_B_alike_0 : decode b_B_alike 0 = .ok (.iload_n 1, 1) := by decide +kernel
theorem d_B_alike_1 : decode b_B_alike 1 = .ok (.invokestatic 55, 3) := by decide +kernel
theorem d_B_alike_4 : decode b_B_alike 4 = .ok (.ifCond .eq 38, 3) := by decide +kernel
theorem d_B_alike_7 : decode b_B_alike 7 = .ok (.iload_n 2, 1) := by decide +kernel
theorem d_B_alike_8 : decode b_B_alike 8 = .ok (.invokestatic 55, 3) := by decide +kernel
theorem d_B_alike_11 : decode b_B_alike 11 = .ok (.ifCond .eq 31, 3) := by decide +kernel
theorem d_B_alike_14 : decode b_B_alike 14 = .ok (.aload_n 0, 1) := by decide +kernel
theorem d_B_alike_15 : decode b_B_alike 15 = .ok (.getfield 18, 3) := by decide +kernel
theorem d_B_alike_18 : decode b_B_alike 18 = .ok (.iload_n 1, 1) := by decide +kernel
theorem d_B_alike_19 : decode b_B_alike 19 = .ok (.aaload, 1) := by decide +kernel
theorem d_B_alike_20 : decode b_B_alike 20 = .ok (.getfield 79, 3) := by decide +kernel
theorem d_B_alike_23 : decode b_B_alike 23 = .ok (.aload_n 0, 1) := by decide +kernel
theorem d_B_alike_24 : decode b_B_alike 24 = .ok (.getfield 18, 3) := by decide +kernel
theorem d_B_alike_27 : decode b_B_alike 27 = .ok (.iload_n 2, 1) := by decide +kernel
theorem d_B_alike_28 : decode b_B_alike 28 = .ok (.aaload, 1) := by decide +kernel
theorem d_B_alike_29 : decode b_B_alike 29 = .ok (.getfield 79, 3) := by decide +kernel
theorem d_B_alike_32 : decode b_B_alike 32 = .ok (.invokevirtual 129, 3) := by decide +kernel
theorem d_B_alike_35 : decode b_B_alike 35 = .ok (.ifCond .eq 7, 3) := by decide +kernel
theorem d_B_alike_38 : decode b_B_alike 38 = .ok (.iconst 1, 1) := by decide +kernel
theorem d_B_alike_39 : decode b_B_alike 39 = .ok (.goto 4, 3) := by decide +kernel
theorem d_B_alike_42 : decode b_B_alike 42 = .ok (.iconst 0, 1) := by decide +kernel
theorem d_B_alike_43 : decode b_B_alike 43 = .ok (.ireturn, 1) := by decide +kernel
theorem hC_B_alike_1 (cI cZ cQ : ClassId) (q0 q1 q2 q3 q4 q5 q6 q7 q8 q9 q10 q11 q12 q13 q14 q15 q16 q17 q18 q19 q20 q21 q22 q23 q24 : Nat) (S0 : (Nat → Option Nat)) (S1 : cL) (S2 : cP) (S3 : cP) : ([] : List Nat).map (fun i => (wB cI cZ cQ q0 q1 q2 S0 ++ wL cI cZ q2 q3 q4 q5 q6 q7 q8 q9 q10 S1 ++ wP cI cZ q11 q12 q13 q14 q15 q16 q17 S2 ++ wP cI cZ q18 q19 q20 q21 q22 q23 q24 S3 : va_W)[i]?) = (([] : va_W) : va_W).map some := rfl
theorem hU_B_alike_1 (cI cZ cQ : ClassId) (q0 q1 q2 q3 q4 q5 q6 q7 q8 q9 q10 q11 q12 q13 q14 q15 q16 q17 q18 q19 q20 q21 q22 q23 q24 : Nat) (S0 : (Nat → Option Nat)) (S1 : cL) (S2 : cP) (S3 : cP)  : vz_put (wB cI cZ cQ q0 q1 q2 S0 ++ wL cI cZ q2 q3 q4 q5 q6 q7 q8 q9 q10 S1 ++ wP cI cZ q11 q12 q13 q14 q15 q16 q17 S2 ++ wP cI cZ q18 q19 q20 q21 q22 q23 q24 S3 : va_W) [] (([] : va_W) : va_W) = wB cI cZ cQ q0 q1 q2 S0 ++ wL cI cZ q2 q3 q4 q5 q6 q7 q8 q9 q10 S1 ++ wP cI cZ q11 q12 q13 q14 q15 q16 q17 S2 ++ wP cI cZ q18 q19 q20 q21 q22 q23 q24 S3 := (show vz_put ([(q0, .inr (3, [.ref q2, .ref q1])), (q1, .inl (cQ, 4, .inr (.inr (.inr (.inr S0))))), (q2, .inr (1, [.ref q3, .ref q4, .ref q5, .ref q6, .ref q7, .ref q8, .ref q9, .ref q10, .int S1.2.2.2.2.2.2.2.2.1, .int S1.2.2.2.2.2.2.2.2.2])), (q3, .inl (cI, 301, .inl S1.1)), (q4, .inl (cI, 301, .inl S1.2.1)), (q5, .inl (cI, 301, .inl S1.2.2.1)), (q6, .inl (cI, 301, .inl S1.2.2.2.1)), (q7, .inl (cI, 301, .inl S1.2.2.2.2.1)), (q8, .inl (cI, 301, .inl S1.2.2.2.2.2.1)), (q9, .inl (cI, 301, .inl S1.2.2.2.2.2.2.1)), (q10, .inl (cI, 300, .inl S1.2.2.2.2.2.2.2.1)), (q11, .inr (2, [.ref q12, .ref q13, .int S2.2.2.1, .int S2.2.2.2.1, .int S2.2.2.2.2])), (q12, .inl (cI, 301, .inl S2.1)), (q13, .inr (0, [.ref q14, .ref q15, .ref q16, .ref q17, .int S2.2.1.2.2.2.2])), (q14, .inl (cZ, 40, .inl S2.2.1.1)), (q15, .inl (cI, 40, .inl S2.2.1.2.1)), (q16, .inl (cI, 40, .inl S2.2.1.2.2.1)), (q17, .inl (cI, 40, .inl S2.2.1.2.2.2.1)), (q18, .inr (2, [.ref q19, .ref q20, .int S3.2.2.1, .int S3.2.2.2.1, .int S3.2.2.2.2])), (q19, .inl (cI, 301, .inl S3.1)), (q20, .inr (0, [.ref q21, .ref q22, .ref q23, .ref q24, .int S3.2.1.2.2.2.2])), (q21, .inl (cZ, 40, .inl S3.2.1.1)), (q22, .inl (cI, 40, .inl S3.2.1.2.1)), (q23, .inl (cI, 40, .inl S3.2.1.2.2.1)), (q24, .inl (cI, 40, .inl S3.2.1.2.2.2.1))] : va_W) [] ([] : va_W) = [(q0, .inr (3, [.ref q2, .ref q1])), (q1, .inl (cQ, 4, .inr (.inr (.inr (.inr S0))))), (q2, .inr (1, [.ref q3, .ref q4, .ref q5, .ref q6, .ref q7, .ref q8, .ref q9, .ref q10, .int S1.2.2.2.2.2.2.2.2.1, .int S1.2.2.2.2.2.2.2.2.2])), (q3, .inl (cI, 301, .inl S1.1)), (q4, .inl (cI, 301, .inl S1.2.1)), (q5, .inl (cI, 301, .inl S1.2.2.1)), (q6, .inl (cI, 301, .inl S1.2.2.2.1)), (q7, .inl (cI, 301, .inl S1.2.2.2.2.1)), (q8, .inl (cI, 301, .inl S1.2.2.2.2.2.1)), (q9, .inl (cI, 301, .inl S1.2.2.2.2.2.2.1)), (q10, .inl (cI, 300, .inl S1.2.2.2.2.2.2.2.1)), (q11, .inr (2, [.ref q12, .ref q13, .int S2.2.2.1, .int S2.2.2.2.1, .int S2.2.2.2.2])), (q12, .inl (cI, 301, .inl S2.1)), (q13, .inr (0, [.ref q14, .ref q15, .ref q16, .ref q17, .int S2.2.1.2.2.2.2])), (q14, .inl (cZ, 40, .inl S2.2.1.1)), (q15, .inl (cI, 40, .inl S2.2.1.2.1)), (q16, .inl (cI, 40, .inl S2.2.1.2.2.1)), (q17, .inl (cI, 40, .inl S2.2.1.2.2.2.1)), (q18, .inr (2, [.ref q19, .ref q20, .int S3.2.2.1, .int S3.2.2.2.1, .int S3.2.2.2.2])), (q19, .inl (cI, 301, .inl S3.1)), (q20, .inr (0, [.ref q21, .ref q22, .ref q23, .ref q24, .int S3.2.1.2.2.2.2])), (q21, .inl (cZ, 40, .inl S3.2.1.1)), (q22, .inl (cI, 40, .inl S3.2.1.2.1)), (q23, .inl (cI, 40, .inl S3.2.1.2.2.1)), (q24, .inl (cI, 40, .inl S3.2.1.2.2.2.1))] from rfl).trans rfl
theorem hC_B_alike_8 (cI cZ cQ : ClassId) (q0 q1 q2 q3 q4 q5 q6 q7 q8 q9 q10 q11 q12 q13 q14 q15 q16 q17 q18 q19 q20 q21 q22 q23 q24 : Nat) (S0 : (Nat → Option Nat)) (S1 : cL) (S2 : cP) (S3 : cP) : ([] : List Nat).map (fun i => (wB cI cZ cQ q0 q1 q2 S0 ++ wL cI cZ q2 q3 q4 q5 q6 q7 q8 q9 q10 S1 ++ wP cI cZ q11 q12 q13 q14 q15 q16 q17 S2 ++ wP cI cZ q18 q19 q20 q21 q22 q23 q24 S3 : va_W)[i]?) = (([] : va_W) : va_W).map some := rfl
theorem hU_B_alike_8 (cI cZ cQ : ClassId) (q0 q1 q2 q3 q4 q5 q6 q7 q8 q9 q10 q11 q12 q13 q14 q15 q16 q17 q18 q19 q20 q21 q22 q23 q24 : Nat) (S0 : (Nat → Option Nat)) (S1 : cL) (S2 : cP) (S3 : cP)  : vz_put (wB cI cZ cQ q0 q1 q2 S0 ++ wL cI cZ q2 q3 q4 q5 q6 q7 q8 q9 q10 S1 ++ wP cI cZ q11 q12 q13 q14 q15 q16 q17 S2 ++ wP cI cZ q18 q19 q20 q21 q22 q23 q24 S3 : va_W) [] (([] : va_W) : va_W) = wB cI cZ cQ q0 q1 q2 S0 ++ wL cI cZ q2 q3 q4 q5 q6 q7 q8 q9 q10 S1 ++ wP cI cZ q11 q12 q13 q14 q15 q16 q17 S2 ++ wP cI cZ q18 q19 q20 q21 q22 q23 q24 S3 := (show vz_put ([(q0, .inr (3, [.ref q2, .ref q1])), (q1, .inl (cQ, 4, .inr (.inr (.inr (.inr S0))))), (q2, .inr (1, [.ref q3, .ref q4, .ref q5, .ref q6, .ref q7, .ref q8, .ref q9, .ref q10, .int S1.2.2.2.2.2.2.2.2.1, .int S1.2.2.2.2.2.2.2.2.2])), (q3, .inl (cI, 301, .inl S1.1)), (q4, .inl (cI, 301, .inl S1.2.1)), (q5, .inl (cI, 301, .inl S1.2.2.1)), (q6, .inl (cI, 301, .inl S1.2.2.2.1)), (q7, .inl (cI, 301, .inl S1.2.2.2.2.1)), (q8, .inl (cI, 301, .inl S1.2.2.2.2.2.1)), (q9, .inl (cI, 301, .inl S1.2.2.2.2.2.2.1)), (q10, .inl (cI, 300, .inl S1.2.2.2.2.2.2.2.1)), (q11, .inr (2, [.ref q12, .ref q13, .int S2.2.2.1, .int S2.2.2.2.1, .int S2.2.2.2.2])), (q12, .inl (cI, 301, .inl S2.1)), (q13, .inr (0, [.ref q14, .ref q15, .ref q16, .ref q17, .int S2.2.1.2.2.2.2])), (q14, .inl (cZ, 40, .inl S2.2.1.1)), (q15, .inl (cI, 40, .inl S2.2.1.2.1)), (q16, .inl (cI, 40, .inl S2.2.1.2.2.1)), (q17, .inl (cI, 40, .inl S2.2.1.2.2.2.1)), (q18, .inr (2, [.ref q19, .ref q20, .int S3.2.2.1, .int S3.2.2.2.1, .int S3.2.2.2.2])), (q19, .inl (cI, 301, .inl S3.1)), (q20, .inr (0, [.ref q21, .ref q22, .ref q23, .ref q24, .int S3.2.1.2.2.2.2])), (q21, .inl (cZ, 40, .inl S3.2.1.1)), (q22, .inl (cI, 40, .inl S3.2.1.2.1)), (q23, .inl (cI, 40, .inl S3.2.1.2.2.1)), (q24, .inl (cI, 40, .inl S3.2.1.2.2.2.1))] : va_W) [] ([] : va_W) = [(q0, .inr (3, [.ref q2, .ref q1])), (q1, .inl (cQ, 4, .inr (.inr (.inr (.inr S0))))), (q2, .inr (1, [.ref q3, .ref q4, .ref q5, .ref q6, .ref q7, .ref q8, .ref q9, .ref q10, .int S1.2.2.2.2.2.2.2.2.1, .int S1.2.2.2.2.2.2.2.2.2])), (q3, .inl (cI, 301, .inl S1.1)), (q4, .inl (cI, 301, .inl S1.2.1)), (q5, .inl (cI, 301, .inl S1.2.2.1)), (q6, .inl (cI, 301, .inl S1.2.2.2.1)), (q7, .inl (cI, 301, .inl S1.2.2.2.2.1)), (q8, .inl (cI, 301, .inl S1.2.2.2.2.2.1)), (q9, .inl (cI, 301, .inl S1.2.2.2.2.2.2.1)), (q10, .inl (cI, 300, .inl S1.2.2.2.2.2.2.2.1)), (q11, .inr (2, [.ref q12, .ref q13, .int S2.2.2.1, .int S2.2.2.2.1, .int S2.2.2.2.2])), (q12, .inl (cI, 301, .inl S2.1)), (q13, .inr (0, [.ref q14, .ref q15, .ref q16, .ref q17, .int S2.2.1.2.2.2.2])), (q14, .inl (cZ, 40, .inl S2.2.1.1)), (q15, .inl (cI, 40, .inl S2.2.1.2.1)), (q16, .inl (cI, 40, .inl S2.2.1.2.2.1)), (q17, .inl (cI, 40, .inl S2.2.1.2.2.2.1)), (q18, .inr (2, [.ref q19, .ref q20, .int S3.2.2.1, .int S3.2.2.2.1, .int S3.2.2.2.2])), (q19, .inl (cI, 301, .inl S3.1)), (q20, .inr (0, [.ref q21, .ref q22, .ref q23, .ref q24, .int S3.2.1.2.2.2.2])), (q21, .inl (cZ, 40, .inl S3.2.1.1)), (q22, .inl (cI, 40, .inl S3.2.1.2.1)), (q23, .inl (cI, 40, .inl S3.2.1.2.2.1)), (q24, .inl (cI, 40, .inl S3.2.1.2.2.2.1))] from rfl).trans rfl
theorem hC_B_alike_32 (cI cZ cQ : ClassId) (q0 q1 q2 q3 q4 q5 q6 q7 q8 q9 q10 q11 q12 q13 q14 q15 q16 q17 q18 q19 q20 q21 q22 q23 q24 : Nat) (S0 : (Nat → Option Nat)) (S1 : cL) (S2 : cP) (S3 : cP) : ([13, 14, 15, 16, 17, 20, 21, 22, 23, 24] : List Nat).map (fun i => (wB cI cZ cQ q0 q1 q2 S0 ++ wL cI cZ q2 q3 q4 q5 q6 q7 q8 q9 q10 S1 ++ wP cI cZ q11 q12 q13 q14 q15 q16 q17 S2 ++ wP cI cZ q18 q19 q20 q21 q22 q23 q24 S3 : va_W)[i]?) = (wT cI cZ q13 q14 q15 q16 q17 S2.2.1 ++ wT cI cZ q20 q21 q22 q23 q24 S3.2.1 : va_W).map some := rfl
theorem hF_T_sameAs (cI cZ cQ : ClassId) {h0 a1 a2 a3 a4 k0 b1 b2 b3 b4 : Nat} (S0 R0 : cT) (S1 R1 : cT) : (wT cI cZ h0 a1 a2 a3 a4 R0 ++ wT cI cZ k0 b1 b2 b3 b4 R1 : va_W).map Prod.fst = (wT cI cZ h0 a1 a2 a3 a4 S0 ++ wT cI cZ k0 b1 b2 b3 b4 S1 : va_W).map Prod.fst := rfl
theorem hU_B_alike_32 (cI cZ cQ : ClassId) (q0 q1 q2 q3 q4 q5 q6 q7 q8 q9 q10 q11 q12 q13 q14 q15 q16 q17 q18 q19 q20 q21 q22 q23 q24 : Nat) (S0 : (Nat → Option Nat)) (S1 : cL) (S2 : cP) (S3 : cP)  : vz_put (wB cI cZ cQ q0 q1 q2 S0 ++ wL cI cZ q2 q3 q4 q5 q6 q7 q8 q9 q10 S1 ++ wP cI cZ q11 q12 q13 q14 q15 q16 q17 S2 ++ wP cI cZ q18 q19 q20 q21 q22 q23 q24 S3 : va_W) [13, 14, 15, 16, 17, 20, 21, 22, 23, 24] (wT cI cZ q13 q14 q15 q16 q17 S2.2.1 ++ wT cI cZ q20 q21 q22 q23 q24 S3.2.1 : va_W) = wB cI cZ cQ q0 q1 q2 S0 ++ wL cI cZ q2 q3 q4 q5 q6 q7 q8 q9 q10 S1 ++ wP cI cZ q11 q12 q13 q14 q15 q16 q17 S2 ++ wP cI cZ q18 q19 q20 q21 q22 q23 q24 S3 := (show vz_put ([(q0, .inr (3, [.ref q2, .ref q1])), (q1, .inl (cQ, 4, .inr (.inr (.inr (.inr S0))))), (q2, .inr (1, [.ref q3, .ref q4, .ref q5, .ref q6, .ref q7, .ref q8, .ref q9, .ref q10, .int S1.2.2.2.2.2.2.2.2.1, .int S1.2.2.2.2.2.2.2.2.2])), (q3, .inl (cI, 301, .inl S1.1)), (q4, .inl (cI, 301, .inl S1.2.1)), (q5, .inl (cI, 301, .inl S1.2.2.1)), (q6, .inl (cI, 301, .inl S1.2.2.2.1)), (q7, .inl (cI, 301, .inl S1.2.2.2.2.1)), (q8, .inl (cI, 301, .inl S1.2.2.2.2.2.1)), (q9, .inl (cI, 301, .inl S1.2.2.2.2.2.2.1)), (q10, .inl (cI, 300, .inl S1.2.2.2.2.2.2.2.1)), (q11, .inr (2, [.ref q12, .ref q13, .int S2.2.2.1, .int S2.2.2.2.1, .int S2.2.2.2.2])), (q12, .inl (cI, 301, .inl S2.1)), (q13, .inr (0, [.ref q14, .ref q15, .ref q16, .ref q17, .int S2.2.1.2.2.2.2])), (q14, .inl (cZ, 40, .inl S2.2.1.1)), (q15, .inl (cI, 40, .inl S2.2.1.2.1)), (q16, .inl (cI, 40, .inl S2.2.1.2.2.1)), (q17, .inl (cI, 40, .inl S2.2.1.2.2.2.1)), (q18, .inr (2, [.ref q19, .ref q20, .int S3.2.2.1, .int S3.2.2.2.1, .int S3.2.2.2.2])), (q19, .inl (cI, 301, .inl S3.1)), (q20, .inr (0, [.ref q21, .ref q22, .ref q23, .ref q24, .int S3.2.1.2.2.2.2])), (q21, .inl (cZ, 40, .inl S3.2.1.1)), (q22, .inl (cI, 40, .inl S3.2.1.2.1)), (q23, .inl (cI, 40, .inl S3.2.1.2.2.1)), (q24, .inl (cI, 40, .inl S3.2.1.2.2.2.1))] : va_W) [13, 14, 15, 16, 17, 20, 21, 22, 23, 24] ([(q13, .inr (0, [.ref q14, .ref q15, .ref q16, .ref q17, .int S2.2.1.2.2.2.2])), (q14, .inl (cZ, 40, .inl S2.2.1.1)), (q15, .inl (cI, 40, .inl S2.2.1.2.1)), (q16, .inl (cI, 40, .inl S2.2.1.2.2.1)), (q17, .inl (cI, 40, .inl S2.2.1.2.2.2.1)), (q20, .inr (0, [.ref q21, .ref q22, .ref q23, .ref q24, .int S3.2.1.2.2.2.2])), (q21, .inl (cZ, 40, .inl S3.2.1.1)), (q22, .inl (cI, 40, .inl S3.2.1.2.1)), (q23, .inl (cI, 40, .inl S3.2.1.2.2.1)), (q24, .inl (cI, 40, .inl S3.2.1.2.2.2.1))] : va_W) = [(q0, .inr (3, [.ref q2, .ref q1])), (q1, .inl (cQ, 4, .inr (.inr (.inr (.inr S0))))), (q2, .inr (1, [.ref q3, .ref q4, .ref q5, .ref q6, .ref q7, .ref q8, .ref q9, .ref q10, .int S1.2.2.2.2.2.2.2.2.1, .int S1.2.2.2.2.2.2.2.2.2])), (q3, .inl (cI, 301, .inl S1.1)), (q4, .inl (cI, 301, .inl S1.2.1)), (q5, .inl (cI, 301, .inl S1.2.2.1)), (q6, .inl (cI, 301, .inl S1.2.2.2.1)), (q7, .inl (cI, 301, .inl S1.2.2.2.2.1)), (q8, .inl (cI, 301, .inl S1.2.2.2.2.2.1)), (q9, .inl (cI, 301, .inl S1.2.2.2.2.2.2.1)), (q10, .inl (cI, 300, .inl S1.2.2.2.2.2.2.2.1)), (q11, .inr (2, [.ref q12, .ref q13, .int S2.2.2.1, .int S2.2.2.2.1, .int S2.2.2.2.2])), (q12, .inl (cI, 301, .inl S2.1)), (q13, .inr (0, [.ref q14, .ref q15, .ref q16, .ref q17, .int S2.2.1.2.2.2.2])), (q14, .inl (cZ, 40, .inl S2.2.1.1)), (q15, .inl (cI, 40, .inl S2.2.1.2.1)), (q16, .inl (cI, 40, .inl S2.2.1.2.2.1)), (q17, .inl (cI, 40, .inl S2.2.1.2.2.2.1)), (q18, .inr (2, [.ref q19, .ref q20, .int S3.2.2.1, .int S3.2.2.2.1, .int S3.2.2.2.2])), (q19, .inl (cI, 301, .inl S3.1)), (q20, .inr (0, [.ref q21, .ref q22, .ref q23, .ref q24, .int S3.2.1.2.2.2.2])), (q21, .inl (cZ, 40, .inl S3.2.1.1)), (q22, .inl (cI, 40, .inl S3.2.1.2.1)), (q23, .inl (cI, 40, .inl S3.2.1.2.2.1)), (q24, .inl (cI, 40, .inl S3.2.1.2.2.2.1))] from rfl).trans rfl
def m_B_alike (L : cL) (P : cP) (O : cP) (x1 : Int32) (x2 : Int32) : Int32 := (if (m_B_isNode x1) = 0 then 0 else (if (m_B_isNode x2) = 0 then 0 else (if (m_T_sameAs P.2.1 O.2.1) = 0 then 0 else 1)))
set_option maxHeartbeats 1000000 in
set_option maxRecDepth 100000 in
theorem c_B_alike (l : Launch) (dC : Nat → ClassId) (dI : Nat → Nat → Nat) (cI cZ cQ : ClassId) (b0 : Nat) (b1 : Nat) (F : Nat → Option Nat) (u0 : Nat) (u1 : Nat) (u2 : Nat) (u3 : Nat) (u4 : Nat) (u5 : Nat) (u6 : Nat) (u7 : Nat) (u8 : Nat) (L : cL) (p0 : Nat) (p1 : Nat) (h0 : Nat) (a1 : Nat) (a2 : Nat) (a3 : Nat) (a4 : Nat) (P : cP) (o0 : Nat) (o1 : Nat) (k0 : Nat) (b2 : Nat) (b3 : Nat) (b4 : Nat) (b5 : Nat) (O : cP) (x1 : Int32) (x2 : Int32) (hF : 0 ≤ x1.toInt → x1.toInt < 4 → F x1.toNatClampNeg = some p0) (hF2 : 0 ≤ x2.toInt → x2.toInt < 4 → F x2.toNatClampNeg = some o0) (hok : okT P.2.1) (hokO : okT O.2.1) : vz_C l (dC, dI) classes [(cI, .int), (cZ, .boolean), (cQ, .object "BinTrees$Person")] y_B_alike (Cond.code y_B_alike b_B_alike 3 (some .boolean) :: vz_tbl) ({ frames := 2, cells := 0, slots := 0, locals := 45 }) [.ref b0, .int x1, .int x2] (wB cI cZ cQ b0 b1 u0 F ++ wL cI cZ u0 u1 u2 u3 u4 u5 u6 u7 u8 L ++ wP cI cZ p0 p1 h0 a1 a2 a3 a4 P ++ wP cI cZ o0 o1 k0 b2 b3 b4 b5 O) (some (.int (m_B_alike L P O x1 x2))) (wB cI cZ cQ b0 b1 u0 F ++ wL cI cZ u0 u1 u2 u3 u4 u5 u6 u7 u8 L ++ wP cI cZ p0 p1 h0 a1 a2 a3 a4 P ++ wP cI cZ o0 o1 k0 b2 b3 b4 b5 O) := by
  generalize hres : (m_B_alike L P O x1 x2) = RES
  refine vz_C.of (by decide) (Nat.le_of_ble_eq_true rfl) ?_
  intro p e s m below meth c ls E hl hK hP hD hS
  obtain ⟨hx, hb, hr, hml, hown, hT, hlocks⟩ := E
  obtain ⟨Q, hQ⟩ : ∃ Q, Q = MQ below (vz_Q (dC, dI) classes (wB cI cZ cQ b0 b1 u0 F ++ wL cI cZ u0 u1 u2 u3 u4 u5 u6 u7 u8 L ++ wP cI cZ p0 p1 h0 a1 a2 a3 a4 P ++ wP cI cZ o0 o1 k0 b2 b3 b4 b5 O) (some (.int RES)) (wB cI cZ cQ b0 b1 u0 F ++ wL cI cZ u0 u1 u2 u3 u4 u5 u6 u7 u8 L ++ wP cI cZ p0 p1 h0 a1 a2 a3 a4 P ++ wP cI cZ o0 o1 k0 b2 b3 b4 b5 O)) ([.ref b0, .int x1, .int x2] : List Value).toArray s 0 0 (vz_A (wB cI cZ cQ b0 b1 u0 F ++ wL cI cZ u0 u1 u2 u3 u4 u5 u6 u7 u8 L ++ wP cI cZ p0 p1 h0 a1 a2 a3 a4 P ++ wP cI cZ o0 o1 k0 b2 b3 b4 b5 O)) := ⟨_, rfl⟩
  rw [← hQ]
  have hl : lv_has ls 3 [(0, .ref b0), (1, .int x1), (2, .int x2)] := hl
  have T0 := ti_0
  have T1 := ti_1
  have Tm := ti_m1
  have T8 := ti_8
  have T39 := ti_39
  have T40 := ti_40
  have T4 := ti_4
  have T300 := ti_300
  have hS0 := hS
  refine lv_iload_n hx hb d_B_alike_0 rfl (lv_at hl 1 rfl) ?_
  have hc := c_B_isNode l dC dI cI cZ cQ x1 
  generalize hg_1 : (m_B_isNode x1) = g_1 at hc
  refine vz_callS (As := [.int x1]) (rest := []) ⟨hx, hb, hml, hown, hT⟩ hc (vz_goodS kw_143 kw_144 kw_1 kw_145) hd_B_isNode ⟨⟨rfl, rfl⟩, Nat.le_of_ble_eq_true rfl, Nat.le_of_ble_eq_true rfl⟩ hK hP hD hS [] rfl (hC_B_alike_1 cI cZ cQ b0 b1 u0 u1 u2 u3 u4 u5 u6 u7 u8 p0 p1 h0 a1 a2 a3 a4 o0 o1 k0 b2 b3 b4 b5 F L P O) (hF_B_isNode cI cZ cQ ) rfl hl.1 rfl (Nat.le_of_ble_eq_true rfl) ⟨Nat.zero_le _, Nat.zero_le _⟩ d_B_alike_1 (fun H locs hP hD hS => ?_)
  have hP : va_P (dC, dI) classes (wB cI cZ cQ b0 b1 u0 F ++ wL cI cZ u0 u1 u2 u3 u4 u5 u6 u7 u8 L ++ wP cI cZ p0 p1 h0 a1 a2 a3 a4 P ++ wP cI cZ o0 o1 k0 b2 b3 b4 b5 O) H := vz_reP (hU_B_alike_1 cI cZ cQ b0 b1 u0 u1 u2 u3 u4 u5 u6 u7 u8 p0 p1 h0 a1 a2 a3 a4 o0 o1 k0 b2 b3 b4 b5 F L P O ) hP
  have hD : va_D (vz_A (wB cI cZ cQ b0 b1 u0 F ++ wL cI cZ u0 u1 u2 u3 u4 u5 u6 u7 u8 L ++ wP cI cZ p0 p1 h0 a1 a2 a3 a4 P ++ wP cI cZ o0 o1 k0 b2 b3 b4 b5 O)) (wB cI cZ cQ b0 b1 u0 F ++ wL cI cZ u0 u1 u2 u3 u4 u5 u6 u7 u8 L ++ wP cI cZ p0 p1 h0 a1 a2 a3 a4 P ++ wP cI cZ o0 o1 k0 b2 b3 b4 b5 O) := vz_reD (hU_B_alike_1 cI cZ cQ b0 b1 u0 u1 u2 u3 u4 u5 u6 u7 u8 p0 p1 h0 a1 a2 a3 a4 o0 o1 k0 b2 b3 b4 b5 F L P O ) hD
  refine W.eq (g2 := F0 m 4 ls [.int g_1]) rfl ?_
  refine lv_if_eq (tgt := 42) hx hb d_B_alike_4 (by decide) (fun c_4 => ?_) (fun c_4 => ?_)
  · have z_4 : g_1.toInt = (0 : Int32).toInt := congrArg Int32.toInt c_4
    refine lv_iconst (v := 0) hx hb d_B_alike_42 (by decide) ?_
    rw [m_B_alike] at hres
    try rw [hg_1] at hres
    rw [if_pos c_4] at hres
    subst hres
    subst hQ
    exact vz_zret hx hb hr (by decide) hlocks d_B_alike_43 hS rfl hP
  · have z_4 : ¬ g_1.toInt = (0 : Int32).toInt := mt Int32.toInt_inj.mp c_4
    refine lv_iload_n hx hb d_B_alike_7 rfl (lv_at hl 2 rfl) ?_
    have hc := c_B_isNode l dC dI cI cZ cQ x2 
    generalize hg_8 : (m_B_isNode x2) = g_8 at hc
    refine vz_callS (As := [.int x2]) (rest := []) ⟨hx, hb, hml, hown, hT⟩ hc (vz_goodS kw_143 kw_144 kw_1 kw_145) hd_B_isNode ⟨⟨rfl, rfl⟩, Nat.le_of_ble_eq_true rfl, Nat.le_of_ble_eq_true rfl⟩ hK hP hD hS [] rfl (hC_B_alike_8 cI cZ cQ b0 b1 u0 u1 u2 u3 u4 u5 u6 u7 u8 p0 p1 h0 a1 a2 a3 a4 o0 o1 k0 b2 b3 b4 b5 F L P O) (hF_B_isNode cI cZ cQ ) rfl hl.1 rfl (Nat.le_of_ble_eq_true rfl) ⟨Nat.zero_le _, Nat.zero_le _⟩ d_B_alike_8 (fun H locs hP hD hS => ?_)
    have hP : va_P (dC, dI) classes (wB cI cZ cQ b0 b1 u0 F ++ wL cI cZ u0 u1 u2 u3 u4 u5 u6 u7 u8 L ++ wP cI cZ p0 p1 h0 a1 a2 a3 a4 P ++ wP cI cZ o0 o1 k0 b2 b3 b4 b5 O) H := vz_reP (hU_B_alike_8 cI cZ cQ b0 b1 u0 u1 u2 u3 u4 u5 u6 u7 u8 p0 p1 h0 a1 a2 a3 a4 o0 o1 k0 b2 b3 b4 b5 F L P O ) hP
    have hD : va_D (vz_A (wB cI cZ cQ b0 b1 u0 F ++ wL cI cZ u0 u1 u2 u3 u4 u5 u6 u7 u8 L ++ wP cI cZ p0 p1 h0 a1 a2 a3 a4 P ++ wP cI cZ o0 o1 k0 b2 b3 b4 b5 O)) (wB cI cZ cQ b0 b1 u0 F ++ wL cI cZ u0 u1 u2 u3 u4 u5 u6 u7 u8 L ++ wP cI cZ p0 p1 h0 a1 a2 a3 a4 P ++ wP cI cZ o0 o1 k0 b2 b3 b4 b5 O) := vz_reD (hU_B_alike_8 cI cZ cQ b0 b1 u0 u1 u2 u3 u4 u5 u6 u7 u8 p0 p1 h0 a1 a2 a3 a4 o0 o1 k0 b2 b3 b4 b5 F L P O ) hD
    refine W.eq (g2 := F0 m 11 ls [.int g_8]) rfl ?_
    refine lv_if_eq (tgt := 42) hx hb d_B_alike_11 (by decide) (fun c_11 => ?_) (fun c_11 => ?_)
    · have z_11 : g_8.toInt = (0 : Int32).toInt := congrArg Int32.toInt c_11
      refine lv_iconst (v := 0) hx hb d_B_alike_42 (by decide) ?_
      rw [m_B_alike] at hres
      try rw [hg_1] at hres
      rw [if_neg c_4] at hres
      try rw [hg_8] at hres
      rw [if_pos c_11] at hres
      subst hres
      subst hQ
      exact vz_zret hx hb hr (by decide) hlocks d_B_alike_43 hS rfl hP
    · have z_11 : ¬ g_8.toInt = (0 : Int32).toInt := mt Int32.toInt_inj.mp c_11
      refine lv_aload_n hx hb d_B_alike_14 rfl (lv_at hl 0 rfl) ?_
      refine va_get (D := (dC, dI)) (ci := 3) (v := .ref b1) (C := R_B) (T := F_B) (N := 2) hx hb hT i_B hown hK hP 0 rfl rfl 1 (by decide) (hT _ kw_129) (fun _ h9 => h9) rfl d_B_alike_15 ?_
      refine lv_iload_n hx hb d_B_alike_18 rfl (lv_at hl 1 rfl) ?_
      refine va_aldq hx hb hK hP 1 2 rfl rfl (by have hn := isn_t (x0 := x1) (by rw [hg_1]; assumption); exact ti_vp (by omega) (by omega)) d_B_alike_19 ?_
      rw [show va_rf (F x1.toNatClampNeg) = .ref p0 from by have hn := isn_t (x0 := x1) (by rw [hg_1]; assumption); rw [hF hn.1 hn.2]; rfl]
      refine va_get (D := (dC, dI)) (ci := 2) (v := .ref h0) (C := R_P) (T := F_P) (N := 5) hx hb hT i_P hown hK hP 11 rfl rfl 1 (by decide) (hT _ kw_110) (fun _ h9 => h9) rfl d_B_alike_20 ?_
      refine lv_aload_n hx hb d_B_alike_23 rfl (lv_at hl 0 rfl) ?_
      refine va_get (D := (dC, dI)) (ci := 3) (v := .ref b1) (C := R_B) (T := F_B) (N := 2) hx hb hT i_B hown hK hP 0 rfl rfl 1 (by decide) (hT _ kw_129) (fun _ h9 => h9) rfl d_B_alike_24 ?_
      refine lv_iload_n hx hb d_B_alike_27 rfl (lv_at hl 2 rfl) ?_
      refine va_aldq hx hb hK hP 1 2 rfl rfl (by have hn := isn_t (x0 := x2) (by rw [hg_8]; assumption); exact ti_vp (by omega) (by omega)) d_B_alike_28 ?_
      rw [show va_rf (F x2.toNatClampNeg) = .ref o0 from by have hn := isn_t (x0 := x2) (by rw [hg_8]; assumption); rw [hF2 hn.1 hn.2]; rfl]
      refine va_get (D := (dC, dI)) (ci := 2) (v := .ref k0) (C := R_P) (T := F_P) (N := 5) hx hb hT i_P hown hK hP 18 rfl rfl 1 (by decide) (hT _ kw_110) (fun _ h9 => h9) rfl d_B_alike_29 ?_
      have hc := c_T_sameAs l dC dI cI cZ cQ h0 a1 a2 a3 a4 P.2.1 k0 b2 b3 b4 b5 O.2.1 (hok) (hokO)
      generalize hg_32 : (m_T_sameAs P.2.1 O.2.1) = g_32 at hc
      refine vz_callV (As := [.ref k0]) (rest := []) ⟨hx, hb, hml, hown, hT⟩ hc (vz_goodV kw_301 kw_302 kw_303 kw_4 kw_304) ⟨rfl, hd_T_sameAs⟩ ⟨⟨rfl, rfl⟩, Nat.le_of_ble_eq_true rfl, Nat.le_of_ble_eq_true rfl⟩ hK hP hD hS [13, 14, 15, 16, 17, 20, 21, 22, 23, 24] rfl (hC_B_alike_32 cI cZ cQ b0 b1 u0 u1 u2 u3 u4 u5 u6 u7 u8 p0 p1 h0 a1 a2 a3 a4 o0 o1 k0 b2 b3 b4 b5 F L P O) (hF_T_sameAs cI cZ cQ _ _ _ _) 0 0 rfl rfl rfl rfl hl.1 rfl (Nat.le_of_ble_eq_true rfl) ⟨Nat.zero_le _, Nat.zero_le _⟩ d_B_alike_32 (fun H locs hP hD hS => ?_)
      have hP : va_P (dC, dI) classes (wB cI cZ cQ b0 b1 u0 F ++ wL cI cZ u0 u1 u2 u3 u4 u5 u6 u7 u8 L ++ wP cI cZ p0 p1 h0 a1 a2 a3 a4 P ++ wP cI cZ o0 o1 k0 b2 b3 b4 b5 O) H := vz_reP (hU_B_alike_32 cI cZ cQ b0 b1 u0 u1 u2 u3 u4 u5 u6 u7 u8 p0 p1 h0 a1 a2 a3 a4 o0 o1 k0 b2 b3 b4 b5 F L P O ) hP
      have hD : va_D (vz_A (wB cI cZ cQ b0 b1 u0 F ++ wL cI cZ u0 u1 u2 u3 u4 u5 u6 u7 u8 L ++ wP cI cZ p0 p1 h0 a1 a2 a3 a4 P ++ wP cI cZ o0 o1 k0 b2 b3 b4 b5 O)) (wB cI cZ cQ b0 b1 u0 F ++ wL cI cZ u0 u1 u2 u3 u4 u5 u6 u7 u8 L ++ wP cI cZ p0 p1 h0 a1 a2 a3 a4 P ++ wP cI cZ o0 o1 k0 b2 b3 b4 b5 O) := vz_reD (hU_B_alike_32 cI cZ cQ b0 b1 u0 u1 u2 u3 u4 u5 u6 u7 u8 p0 p1 h0 a1 a2 a3 a4 o0 o1 k0 b2 b3 b4 b5 F L P O ) hD
      refine W.eq (g2 := F0 m 35 ls [.int g_32]) rfl ?_
      refine lv_if_eq (tgt := 42) hx hb d_B_alike_35 (by decide) (fun c_35 => ?_) (fun c_35 => ?_)
      · have z_35 : g_32.toInt = (0 : Int32).toInt := congrArg Int32.toInt c_35
        refine lv_iconst (v := 0) hx hb d_B_alike_42 (by decide) ?_
        rw [m_B_alike] at hres
        try rw [hg_1] at hres
        rw [if_neg c_4] at hres
        try rw [hg_8] at hres
        rw [if_neg c_11] at hres
        try rw [hg_32] at hres
        rw [if_pos c_35] at hres
        subst hres
        subst hQ
        exact vz_zret hx hb hr (by decide) hlocks d_B_alike_43 hS rfl hP
      · have z_35 : ¬ g_32.toInt = (0 : Int32).toInt := mt Int32.toInt_inj.mp c_35
        refine lv_iconst (v := 1) hx hb d_B_alike_38 (by decide) ?_
        refine lv_goto (tgt := 43) hx hb d_B_alike_39 (by decide) ?_
        rw [m_B_alike] at hres
        try rw [hg_1] at hres
        rw [if_neg c_4] at hres
        try rw [hg_8] at hres
        rw [if_neg c_11] at hres
        try rw [hg_32] at hres
        rw [if_neg c_35] at hres
        subst hres
        subst hQ
        exact vz_zret hx hb hr (by decide) hlocks d_B_alike_43 hS rfl hP
