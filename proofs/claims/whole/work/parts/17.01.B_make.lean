theorem d_B_make_0 : decode b_B_make 0 = .ok (.aload_n 0, 1) := by decide +kernel
theorem d_B_make_1 : decode b_B_make 1 = .ok (.iload_n 1, 1) := by decide +kernel
theorem d_B_make_2 : decode b_B_make 2 = .ok (.invokevirtual 23, 3) := by decide +kernel
theorem d_B_make_5 : decode b_B_make 5 = .ok (.ifCond .eq 15, 3) := by decide +kernel
theorem d_B_make_8 : decode b_B_make 8 = .ok (.aload_n 0, 1) := by decide +kernel
theorem d_B_make_9 : decode b_B_make 9 = .ok (.getfield 10, 3) := by decide +kernel
theorem d_B_make_12 : decode b_B_make 12 = .ok (.getfield 27, 3) := by decide +kernel
theorem d_B_make_15 : decode b_B_make 15 = .ok (.bipush 39, 2) := by decide +kernel
theorem d_B_make_17 : decode b_B_make 17 = .ok (.if_icmp .lt 5, 3) := by decide +kernel
theorem d_B_make_20 : decode b_B_make 20 = .ok (.iconst (-1), 1) := by decide +kernel
theorem d_B_make_21 : decode b_B_make 21 = .ok (.ireturn, 1) := by decide +kernel
theorem d_B_make_22 : decode b_B_make 22 = .ok (.aload_n 0, 1) := by decide +kernel
theorem d_B_make_23 : decode b_B_make 23 = .ok (.getfield 10, 3) := by decide +kernel
theorem d_B_make_26 : decode b_B_make 26 = .ok (.dup, 1) := by decide +kernel
theorem d_B_make_27 : decode b_B_make 27 = .ok (.getfield 27, 3) := by decide +kernel
theorem d_B_make_30 : decode b_B_make 30 = .ok (.iconst 1, 1) := by decide +kernel
theorem d_B_make_31 : decode b_B_make 31 = .ok (.iadd, 1) := by decide +kernel
theorem d_B_make_32 : decode b_B_make 32 = .ok (.putfield 27, 3) := by decide +kernel
theorem d_B_make_35 : decode b_B_make 35 = .ok (.aload_n 0, 1) := by decide +kernel
theorem d_B_make_36 : decode b_B_make 36 = .ok (.iload_n 1, 1) := by decide +kernel
theorem d_B_make_37 : decode b_B_make 37 = .ok (.aload_n 0, 1) := by decide +kernel
theorem d_B_make_38 : decode b_B_make 38 = .ok (.getfield 10, 3) := by decide +kernel
theorem d_B_make_41 : decode b_B_make 41 = .ok (.iconst 0, 1) := by decide +kernel
theorem d_B_make_42 : decode b_B_make 42 = .ok (.iload_n 1, 1) := by decide +kernel
theorem d_B_make_43 : decode b_B_make 43 = .ok (.aload_n 0, 1) := by decide +kernel
theorem d_B_make_44 : decode b_B_make 44 = .ok (.getfield 18, 3) := by decide +kernel
theorem d_B_make_47 : decode b_B_make 47 = .ok (.iload_n 1, 1) := by decide +kernel
theorem d_B_make_48 : decode b_B_make 48 = .ok (.aaload, 1) := by decide +kernel
theorem d_B_make_49 : decode b_B_make 49 = .ok (.getfield 31, 3) := by decide +kernel
theorem d_B_make_52 : decode b_B_make 52 = .ok (.iconst 1, 1) := by decide +kernel
theorem d_B_make_53 : decode b_B_make 53 = .ok (.iadd, 1) := by decide +kernel
theorem d_B_make_54 : decode b_B_make 54 = .ok (.aload_n 0, 1) := by decide +kernel
theorem d_B_make_55 : decode b_B_make 55 = .ok (.getfield 10, 3) := by decide +kernel
theorem d_B_make_58 : decode b_B_make 58 = .ok (.getfield 27, 3) := by decide +kernel
theorem d_B_make_61 : decode b_B_make 61 = .ok (.iconst (-1), 1) := by decide +kernel
theorem d_B_make_62 : decode b_B_make 62 = .ok (.iconst (-1), 1) := by decide +kernel
theorem d_B_make_63 : decode b_B_make 63 = .ok (.invokevirtual 34, 3) := by decide +kernel
theorem d_B_make_66 : decode b_B_make 66 = .ok (.invokevirtual 38, 3) := by decide +kernel
theorem d_B_make_69 : decode b_B_make 69 = .ok (.pop, 1) := by decide +kernel
theorem d_B_make_70 : decode b_B_make 70 = .ok (.aload_n 0, 1) := by decide +kernel
theorem d_B_make_71 : decode b_B_make 71 = .ok (.getfield 10, 3) := by decide +kernel
theorem d_B_make_74 : decode b_B_make 74 = .ok (.getfield 27, 3) := by decide +kernel
theorem d_B_make_77 : decode b_B_make 77 = .ok (.ireturn, 1) := by decide +kernel
theorem hC_B_make_2 (cI cZ cQ : ClassId) (q0 q1 q2 q3 q4 q5 q6 q7 q8 q9 q10 q11 q12 q13 q14 q15 q16 q17 : Nat) (S0 : (Nat → Option Nat)) (S1 : cL) (S2 : cP) : ([0, 1, 2, 3, 4, 5, 6, 7, 8, 9, 10] : List Nat).map (fun i => (wB cI cZ cQ q0 q1 q2 S0 ++ wL cI cZ q2 q3 q4 q5 q6 q7 q8 q9 q10 S1 ++ wP cI cZ q11 q12 q13 q14 q15 q16 q17 S2 : va_W)[i]?) = (wB cI cZ cQ q0 q1 q2 S0 ++ wL cI cZ q2 q3 q4 q5 q6 q7 q8 q9 q10 S1 : va_W).map some := rfl
theorem hF_B_mayWrite (cI cZ cQ : ClassId) {b0 b1 u0 u1 u2 u3 u4 u5 u6 u7 u8 : Nat} (S0 R0 : (Nat → Option Nat)) (S1 R1 : cL) : (wB cI cZ cQ b0 b1 u0 R0 ++ wL cI cZ u0 u1 u2 u3 u4 u5 u6 u7 u8 R1 : va_W).map Prod.fst = (wB cI cZ cQ b0 b1 u0 S0 ++ wL cI cZ u0 u1 u2 u3 u4 u5 u6 u7 u8 S1 : va_W).map Prod.fst := rfl
theorem hU_B_make_2 (cI cZ cQ : ClassId) (q0 q1 q2 q3 q4 q5 q6 q7 q8 q9 q10 q11 q12 q13 q14 q15 q16 q17 : Nat) (S0 : (Nat → Option Nat)) (S1 : cL) (S2 : cP)  : vz_put (wB cI cZ cQ q0 q1 q2 S0 ++ wL cI cZ q2 q3 q4 q5 q6 q7 q8 q9 q10 S1 ++ wP cI cZ q11 q12 q13 q14 q15 q16 q17 S2 : va_W) [0, 1, 2, 3, 4, 5, 6, 7, 8, 9, 10] (wB cI cZ cQ q0 q1 q2 S0 ++ wL cI cZ q2 q3 q4 q5 q6 q7 q8 q9 q10 S1 : va_W) = wB cI cZ cQ q0 q1 q2 S0 ++ wL cI cZ q2 q3 q4 q5 q6 q7 q8 q9 q10 S1 ++ wP cI cZ q11 q12 q13 q14 q15 q16 q17 S2 := (show vz_put ([(q0, .inr (3, [.ref q2, .ref q1])), (q1, .inl (cQ, 4, .inr (.inr (.inr (.inr S0))))), (q2, .inr (1, [.ref q3, .ref q4, .ref q5, .ref q6, .ref q7, .ref q8, .ref q9, .ref q10, .int S1.2.2.2.2.2.2.2.2.1, .int S1.2.2.2.2.2.2.2.2.2])), (q3, .inl (cI, 301, .inl S1.1)), (q4, .inl (cI, 301, .inl S1.2.1)), (q5, .inl (cI, 301, .inl S1.2.2.1)), (q6, .inl (cI, 301, .inl S1.2.2.2.1)), (q7, .inl (cI, 301, .inl S1.2.2.2.2.1)), (q8, .inl (cI, 301, .inl S1.2.2.2.2.2.1)), (q9, .inl (cI, 301, .inl S1.2.2.2.2.2.2.1)), (q10, .inl (cI, 300, .inl S1.2.2.2.2.2.2.2.1)), (q11, .inr (2, [.ref q12, .ref q13, .int S2.2.2.1, .int S2.2.2.2.1, .int S2.2.2.2.2])), (q12, .inl (cI, 301, .inl S2.1)), (q13, .inr (0, [.ref q14, .ref q15, .ref q16, .ref q17, .int S2.2.1.2.2.2.2])), (q14, .inl (cZ, 40, .inl S2.2.1.1)), (q15, .inl (cI, 40, .inl S2.2.1.2.1)), (q16, .inl (cI, 40, .inl S2.2.1.2.2.1)), (q17, .inl (cI, 40, .inl S2.2.1.2.2.2.1))] : va_W) [0, 1, 2, 3, 4, 5, 6, 7, 8, 9, 10] ([(q0, .inr (3, [.ref q2, .ref q1])), (q1, .inl (cQ, 4, .inr (.inr (.inr (.inr S0))))), (q2, .inr (1, [.ref q3, .ref q4, .ref q5, .ref q6, .ref q7, .ref q8, .ref q9, .ref q10, .int S1.2.2.2.2.2.2.2.2.1, .int S1.2.2.2.2.2.2.2.2.2])), (q3, .inl (cI, 301, .inl S1.1)), (q4, .inl (cI, 301, .inl S1.2.1)), (q5, .inl (cI, 301, .inl S1.2.2.1)), (q6, .inl (cI, 301, .inl S1.2.2.2.1)), (q7, .inl (cI, 301, .inl S1.2.2.2.2.1)), (q8, .inl (cI, 301, .inl S1.2.2.2.2.2.1)), (q9, .inl (cI, 301, .inl S1.2.2.2.2.2.2.1)), (q10, .inl (cI, 300, .inl S1.2.2.2.2.2.2.2.1))] : va_W) = [(q0, .inr (3, [.ref q2, .ref q1])), (q1, .inl (cQ, 4, .inr (.inr (.inr (.inr S0))))), (q2, .inr (1, [.ref q3, .ref q4, .ref q5, .ref q6, .ref q7, .ref q8, .ref q9, .ref q10, .int S1.2.2.2.2.2.2.2.2.1, .int S1.2.2.2.2.2.2.2.2.2])), (q3, .inl (cI, 301, .inl S1.1)), (q4, .inl (cI, 301, .inl S1.2.1)), (q5, .inl (cI, 301, .inl S1.2.2.1)), (q6, .inl (cI, 301, .inl S1.2.2.2.1)), (q7, .inl (cI, 301, .inl S1.2.2.2.2.1)), (q8, .inl (cI, 301, .inl S1.2.2.2.2.2.1)), (q9, .inl (cI, 301, .inl S1.2.2.2.2.2.2.1)), (q10, .inl (cI, 300, .inl S1.2.2.2.2.2.2.2.1)), (q11, .inr (2, [.ref q12, .ref q13, .int S2.2.2.1, .int S2.2.2.2.1, .int S2.2.2.2.2])), (q12, .inl (cI, 301, .inl S2.1)), (q13, .inr (0, [.ref q14, .ref q15, .ref q16, .ref q17, .int S2.2.1.2.2.2.2])), (q14, .inl (cZ, 40, .inl S2.2.1.1)), (q15, .inl (cI, 40, .inl S2.2.1.2.1)), (q16, .inl (cI, 40, .inl S2.2.1.2.2.1)), (q17, .inl (cI, 40, .inl S2.2.1.2.2.2.1))] from rfl).trans rfl
theorem hW_B_make_32 (cI cZ cQ : ClassId) (q0 q1 q2 q3 q4 q5 q6 q7 q8 q9 q10 q11 q12 q13 q14 q15 q16 q17 : Nat) (S0 : (Nat → Option Nat)) (S1 : cL) (S2 : cP) (v : Int32) : (wB cI cZ cQ q0 q1 q2 S0 ++ wL cI cZ q2 q3 q4 q5 q6 q7 q8 q9 q10 S1 ++ wP cI cZ q11 q12 q13 q14 q15 q16 q17 S2 : va_W).set 2 (q2, .inr (1, [.ref q3, .ref q4, .ref q5, .ref q6, .ref q7, .ref q8, .ref q9, .ref q10, .int S1.2.2.2.2.2.2.2.2.1, .int S1.2.2.2.2.2.2.2.2.2].set 9 (.int v))) = wB cI cZ cQ q0 q1 q2 S0 ++ wL cI cZ q2 q3 q4 q5 q6 q7 q8 q9 q10 (S1.1, S1.2.1, S1.2.2.1, S1.2.2.2.1, S1.2.2.2.2.1, S1.2.2.2.2.2.1, S1.2.2.2.2.2.2.1, S1.2.2.2.2.2.2.2.1, S1.2.2.2.2.2.2.2.2.1, v) ++ wP cI cZ q11 q12 q13 q14 q15 q16 q17 S2 := rfl
theorem hC_B_make_63 (cI cZ cQ : ClassId) (q0 q1 q2 q3 q4 q5 q6 q7 q8 q9 q10 q11 q12 q13 q14 q15 q16 q17 : Nat) (S0 : (Nat → Option Nat)) (S1 : cL) (S2 : cP) : ([2, 3, 4, 5, 6, 7, 8, 9, 10] : List Nat).map (fun i => (wB cI cZ cQ q0 q1 q2 S0 ++ wL cI cZ q2 q3 q4 q5 q6 q7 q8 q9 q10 S1 ++ wP cI cZ q11 q12 q13 q14 q15 q16 q17 S2 : va_W)[i]?) = (wL cI cZ q2 q3 q4 q5 q6 q7 q8 q9 q10 S1 : va_W).map some := rfl
theorem hF_L_add (cI cZ cQ : ClassId) {u0 u1 u2 u3 u4 u5 u6 u7 u8 : Nat} (S0 R0 : cL) : (wL cI cZ u0 u1 u2 u3 u4 u5 u6 u7 u8 R0 : va_W).map Prod.fst = (wL cI cZ u0 u1 u2 u3 u4 u5 u6 u7 u8 S0 : va_W).map Prod.fst := rfl
theorem hU_B_make_63 (cI cZ cQ : ClassId) (q0 q1 q2 q3 q4 q5 q6 q7 q8 q9 q10 q11 q12 q13 q14 q15 q16 q17 : Nat) (S0 : (Nat → Option Nat)) (S1 : cL) (S2 : cP) (R0 : cL) : vz_put (wB cI cZ cQ q0 q1 q2 S0 ++ wL cI cZ q2 q3 q4 q5 q6 q7 q8 q9 q10 S1 ++ wP cI cZ q11 q12 q13 q14 q15 q16 q17 S2 : va_W) [2, 3, 4, 5, 6, 7, 8, 9, 10] (wL cI cZ q2 q3 q4 q5 q6 q7 q8 q9 q10 R0 : va_W) = wB cI cZ cQ q0 q1 q2 S0 ++ wL cI cZ q2 q3 q4 q5 q6 q7 q8 q9 q10 R0 ++ wP cI cZ q11 q12 q13 q14 q15 q16 q17 S2 := (show vz_put ([(q0, .inr (3, [.ref q2, .ref q1])), (q1, .inl (cQ, 4, .inr (.inr (.inr (.inr S0))))), (q2, .inr (1, [.ref q3, .ref q4, .ref q5, .ref q6, .ref q7, .ref q8, .ref q9, .ref q10, .int S1.2.2.2.2.2.2.2.2.1, .int S1.2.2.2.2.2.2.2.2.2])), (q3, .inl (cI, 301, .inl S1.1)), (q4, .inl (cI, 301, .inl S1.2.1)), (q5, .inl (cI, 301, .inl S1.2.2.1)), (q6, .inl (cI, 301, .inl S1.2.2.2.1)), (q7, .inl (cI, 301, .inl S1.2.2.2.2.1)), (q8, .inl (cI, 301, .inl S1.2.2.2.2.2.1)), (q9, .inl (cI, 301, .inl S1.2.2.2.2.2.2.1)), (q10, .inl (cI, 300, .inl S1.2.2.2.2.2.2.2.1)), (q11, .inr (2, [.ref q12, .ref q13, .int S2.2.2.1, .int S2.2.2.2.1, .int S2.2.2.2.2])), (q12, .inl (cI, 301, .inl S2.1)), (q13, .inr (0, [.ref q14, .ref q15, .ref q16, .ref q17, .int S2.2.1.2.2.2.2])), (q14, .inl (cZ, 40, .inl S2.2.1.1)), (q15, .inl (cI, 40, .inl S2.2.1.2.1)), (q16, .inl (cI, 40, .inl S2.2.1.2.2.1)), (q17, .inl (cI, 40, .inl S2.2.1.2.2.2.1))] : va_W) [2, 3, 4, 5, 6, 7, 8, 9, 10] ([(q2, .inr (1, [.ref q3, .ref q4, .ref q5, .ref q6, .ref q7, .ref q8, .ref q9, .ref q10, .int R0.2.2.2.2.2.2.2.2.1, .int R0.2.2.2.2.2.2.2.2.2])), (q3, .inl (cI, 301, .inl R0.1)), (q4, .inl (cI, 301, .inl R0.2.1)), (q5, .inl (cI, 301, .inl R0.2.2.1)), (q6, .inl (cI, 301, .inl R0.2.2.2.1)), (q7, .inl (cI, 301, .inl R0.2.2.2.2.1)), (q8, .inl (cI, 301, .inl R0.2.2.2.2.2.1)), (q9, .inl (cI, 301, .inl R0.2.2.2.2.2.2.1)), (q10, .inl (cI, 300, .inl R0.2.2.2.2.2.2.2.1))] : va_W) = [(q0, .inr (3, [.ref q2, .ref q1])), (q1, .inl (cQ, 4, .inr (.inr (.inr (.inr S0))))), (q2, .inr (1, [.ref q3, .ref q4, .ref q5, .ref q6, .ref q7, .ref q8, .ref q9, .ref q10, .int R0.2.2.2.2.2.2.2.2.1, .int R0.2.2.2.2.2.2.2.2.2])), (q3, .inl (cI, 301, .inl R0.1)), (q4, .inl (cI, 301, .inl R0.2.1)), (q5, .inl (cI, 301, .inl R0.2.2.1)), (q6, .inl (cI, 301, .inl R0.2.2.2.1)), (q7, .inl (cI, 301, .inl R0.2.2.2.2.1)), (q8, .inl (cI, 301, .inl R0.2.2.2.2.2.1)), (q9, .inl (cI, 301, .inl R0.2.2.2.2.2.2.1)), (q10, .inl (cI, 300, .inl R0.2.2.2.2.2.2.2.1)), (q11, .inr (2, [.ref q12, .ref q13, .int S2.2.2.1, .int S2.2.2.2.1, .int S2.2.2.2.2])), (q12, .inl (cI, 301, .inl S2.1)), (q13, .inr (0, [.ref q14, .ref q15, .ref q16, .ref q17, .int S2.2.1.2.2.2.2])), (q14, .inl (cZ, 40, .inl S2.2.1.1)), (q15, .inl (cI, 40, .inl S2.2.1.2.1)), (q16, .inl (cI, 40, .inl S2.2.1.2.2.1)), (q17, .inl (cI, 40, .inl S2.2.1.2.2.2.1))] from rfl).trans rfl
theorem hC_B_make_66 (cI cZ cQ : ClassId) (q0 q1 q2 q3 q4 q5 q6 q7 q8 q9 q10 q11 q12 q13 q14 q15 q16 q17 : Nat) (S0 : (Nat → Option Nat)) (S1 : cL) (S2 : cP) : ([0, 1, 2, 3, 4, 5, 6, 7, 8, 9, 10, 11, 12, 13, 14, 15, 16, 17] : List Nat).map (fun i => (wB cI cZ cQ q0 q1 q2 S0 ++ wL cI cZ q2 q3 q4 q5 q6 q7 q8 q9 q10 S1 ++ wP cI cZ q11 q12 q13 q14 q15 q16 q17 S2 : va_W)[i]?) = (wB cI cZ cQ q0 q1 q2 S0 ++ wL cI cZ q2 q3 q4 q5 q6 q7 q8 q9 q10 S1 ++ wP cI cZ q11 q12 q13 q14 q15 q16 q17 S2 : va_W).map some := rfl
theorem hF_B_told (cI cZ cQ : ClassId) {b0 b1 u0 u1 u2 u3 u4 u5 u6 u7 u8 p0 p1 h0 a1 a2 a3 a4 : Nat} (S0 R0 : (Nat → Option Nat)) (S1 R1 : cL) (S2 R2 : cP) : (wB cI cZ cQ b0 b1 u0 R0 ++ wL cI cZ u0 u1 u2 u3 u4 u5 u6 u7 u8 R1 ++ wP cI cZ p0 p1 h0 a1 a2 a3 a4 R2 : va_W).map Prod.fst = (wB cI cZ cQ b0 b1 u0 S0 ++ wL cI cZ u0 u1 u2 u3 u4 u5 u6 u7 u8 S1 ++ wP cI cZ p0 p1 h0 a1 a2 a3 a4 S2 : va_W).map Prod.fst := rfl
theorem hU_B_make_66 (cI cZ cQ : ClassId) (q0 q1 q2 q3 q4 q5 q6 q7 q8 q9 q10 q11 q12 q13 q14 q15 q16 q17 : Nat) (S0 : (Nat → Option Nat)) (S1 : cL) (S2 : cP) (R2 : cP) : vz_put (wB cI cZ cQ q0 q1 q2 S0 ++ wL cI cZ q2 q3 q4 q5 q6 q7 q8 q9 q10 S1 ++ wP cI cZ q11 q12 q13 q14 q15 q16 q17 S2 : va_W) [0, 1, 2, 3, 4, 5, 6, 7, 8, 9, 10, 11, 12, 13, 14, 15, 16, 17] (wB cI cZ cQ q0 q1 q2 S0 ++ wL cI cZ q2 q3 q4 q5 q6 q7 q8 q9 q10 S1 ++ wP cI cZ q11 q12 q13 q14 q15 q16 q17 R2 : va_W) = wB cI cZ cQ q0 q1 q2 S0 ++ wL cI cZ q2 q3 q4 q5 q6 q7 q8 q9 q10 S1 ++ wP cI cZ q11 q12 q13 q14 q15 q16 q17 R2 := (show vz_put ([(q0, .inr (3, [.ref q2, .ref q1])), (q1, .inl (cQ, 4, .inr (.inr (.inr (.inr S0))))), (q2, .inr (1, [.ref q3, .ref q4, .ref q5, .ref q6, .ref q7, .ref q8, .ref q9, .ref q10, .int S1.2.2.2.2.2.2.2.2.1, .int S1.2.2.2.2.2.2.2.2.2])), (q3, .inl (cI, 301, .inl S1.1)), (q4, .inl (cI, 301, .inl S1.2.1)), (q5, .inl (cI, 301, .inl S1.2.2.1)), (q6, .inl (cI, 301, .inl S1.2.2.2.1)), (q7, .inl (cI, 301, .inl S1.2.2.2.2.1)), (q8, .inl (cI, 301, .inl S1.2.2.2.2.2.1)), (q9, .inl (cI, 301, .inl S1.2.2.2.2.2.2.1)), (q10, .inl (cI, 300, .inl S1.2.2.2.2.2.2.2.1)), (q11, .inr (2, [.ref q12, .ref q13, .int S2.2.2.1, .int S2.2.2.2.1, .int S2.2.2.2.2])), (q12, .inl (cI, 301, .inl S2.1)), (q13, .inr (0, [.ref q14, .ref q15, .ref q16, .ref q17, .int S2.2.1.2.2.2.2])), (q14, .inl (cZ, 40, .inl S2.2.1.1)), (q15, .inl (cI, 40, .inl S2.2.1.2.1)), (q16, .inl (cI, 40, .inl S2.2.1.2.2.1)), (q17, .inl (cI, 40, .inl S2.2.1.2.2.2.1))] : va_W) [0, 1, 2, 3, 4, 5, 6, 7, 8, 9, 10, 11, 12, 13, 14, 15, 16, 17] ([(q0, .inr (3, [.ref q2, .ref q1])), (q1, .inl (cQ, 4, .inr (.inr (.inr (.inr S0))))), (q2, .inr (1, [.ref q3, .ref q4, .ref q5, .ref q6, .ref q7, .ref q8, .ref q9, .ref q10, .int S1.2.2.2.2.2.2.2.2.1, .int S1.2.2.2.2.2.2.2.2.2])), (q3, .inl (cI, 301, .inl S1.1)), (q4, .inl (cI, 301, .inl S1.2.1)), (q5, .inl (cI, 301, .inl S1.2.2.1)), (q6, .inl (cI, 301, .inl S1.2.2.2.1)), (q7, .inl (cI, 301, .inl S1.2.2.2.2.1)), (q8, .inl (cI, 301, .inl S1.2.2.2.2.2.1)), (q9, .inl (cI, 301, .inl S1.2.2.2.2.2.2.1)), (q10, .inl (cI, 300, .inl S1.2.2.2.2.2.2.2.1)), (q11, .inr (2, [.ref q12, .ref q13, .int R2.2.2.1, .int R2.2.2.2.1, .int R2.2.2.2.2])), (q12, .inl (cI, 301, .inl R2.1)), (q13, .inr (0, [.ref q14, .ref q15, .ref q16, .ref q17, .int R2.2.1.2.2.2.2])), (q14, .inl (cZ, 40, .inl R2.2.1.1)), (q15, .inl (cI, 40, .inl R2.2.1.2.1)), (q16, .inl (cI, 40, .inl R2.2.1.2.2.1)), (q17, .inl (cI, 40, .inl R2.2.1.2.2.2.1))] : va_W) = [(q0, .inr (3, [.ref q2, .ref q1])), (q1, .inl (cQ, 4, .inr (.inr (.inr (.inr S0))))), (q2, .inr (1, [.ref q3, .ref q4, .ref q5, .ref q6, .ref q7, .ref q8, .ref q9, .ref q10, .int S1.2.2.2.2.2.2.2.2.1, .int S1.2.2.2.2.2.2.2.2.2])), (q3, .inl (cI, 301, .inl S1.1)), (q4, .inl (cI, 301, .inl S1.2.1)), (q5, .inl (cI, 301, .inl S1.2.2.1)), (q6, .inl (cI, 301, .inl S1.2.2.2.1)), (q7, .inl (cI, 301, .inl S1.2.2.2.2.1)), (q8, .inl (cI, 301, .inl S1.2.2.2.2.2.1)), (q9, .inl (cI, 301, .inl S1.2.2.2.2.2.2.1)), (q10, .inl (cI, 300, .inl S1.2.2.2.2.2.2.2.1)), (q11, .inr (2, [.ref q12, .ref q13, .int R2.2.2.1, .int R2.2.2.2.1, .int R2.2.2.2.2])), (q12, .inl (cI, 301, .inl R2.1)), (q13, .inr (0, [.ref q14, .ref q15, .ref q16, .ref q17, .int R2.2.1.2.2.2.2])), (q14, .inl (cZ, 40, .inl R2.2.1.1)), (q15, .inl (cI, 40, .inl R2.2.1.2.1)), (q16, .inl (cI, 40, .inl R2.2.1.2.2.1)), (q17, .inl (cI, 40, .inl R2.2.1.2.2.2.1))] from rfl).trans rfl
def m_B_make (L : cL) (P : cP) (x1 : Int32) : Int32 × cL × cP := (if (m_B_mayWrite L x1) = 0 then (-1, L, P) else (if L.2.2.2.2.2.2.2.2.2 < 39 then ((m_L_add (L.1, L.2.1, L.2.2.1, L.2.2.2.1, L.2.2.2.2.1, L.2.2.2.2.2.1, L.2.2.2.2.2.2.1, L.2.2.2.2.2.2.2.1, L.2.2.2.2.2.2.2.2.1, L.2.2.2.2.2.2.2.2.2 + 1) 0 x1 (P.2.2.2.1 + 1) (L.2.2.2.2.2.2.2.2.2 + 1) (-1) (-1)).2.2.2.2.2.2.2.2.2.2, (m_L_add (L.1, L.2.1, L.2.2.1, L.2.2.2.1, L.2.2.2.2.1, L.2.2.2.2.2.1, L.2.2.2.2.2.2.1, L.2.2.2.2.2.2.2.1, L.2.2.2.2.2.2.2.2.1, L.2.2.2.2.2.2.2.2.2 + 1) 0 x1 (P.2.2.2.1 + 1) (L.2.2.2.2.2.2.2.2.2 + 1) (-1) (-1)).2, (m_B_told (m_L_add (L.1, L.2.1, L.2.2.1, L.2.2.2.1, L.2.2.2.2.1, L.2.2.2.2.2.1, L.2.2.2.2.2.2.1, L.2.2.2.2.2.2.2.1, L.2.2.2.2.2.2.2.2.1, L.2.2.2.2.2.2.2.2.2 + 1) 0 x1 (P.2.2.2.1 + 1) (L.2.2.2.2.2.2.2.2.2 + 1) (-1) (-1)).2 P x1 (m_L_add (L.1, L.2.1, L.2.2.1, L.2.2.2.1, L.2.2.2.2.1, L.2.2.2.2.2.1, L.2.2.2.2.2.2.1, L.2.2.2.2.2.2.2.1, L.2.2.2.2.2.2.2.2.1, L.2.2.2.2.2.2.2.2.2 + 1) 0 x1 (P.2.2.2.1 + 1) (L.2.2.2.2.2.2.2.2.2 + 1) (-1) (-1)).1).2) else (-1, L, P)))
set_option maxHeartbeats 1000000 in
set_option maxRecDepth 100000 in
theorem c_B_make (l : Launch) (dC : Nat → ClassId) (dI : Nat → Nat → Nat) (cI cZ cQ : ClassId) (b0 : Nat) (b1 : Nat) (F : Nat → Option Nat) (u0 : Nat) (u1 : Nat) (u2 : Nat) (u3 : Nat) (u4 : Nat) (u5 : Nat) (u6 : Nat) (u7 : Nat) (u8 : Nat) (L : cL) (p0 : Nat) (p1 : Nat) (h0 : Nat) (a1 : Nat) (a2 : Nat) (a3 : Nat) (a4 : Nat) (P : cP) (x1 : Int32) (hF : 0 ≤ x1.toInt → x1.toInt < 4 → F x1.toNatClampNeg = some p0) (hL : okL L) (hA : (0 ≤ x1.toInt ∧ x1.toInt < 4) → L.2.2.2.2.2.2.2.2.1.toInt < 300 → (L.2.2.2.2.2.2.2.2.2.toInt < 39) → okTold (m_L_add (L.1, L.2.1, L.2.2.1, L.2.2.2.1, L.2.2.2.2.1, L.2.2.2.2.2.1, L.2.2.2.2.2.2.1, L.2.2.2.2.2.2.2.1, L.2.2.2.2.2.2.2.2.1, L.2.2.2.2.2.2.2.2.2 + 1) 0 x1 (P.2.2.2.1 + 1) (L.2.2.2.2.2.2.2.2.2 + 1) (-1) (-1)).2 P (m_L_add (L.1, L.2.1, L.2.2.1, L.2.2.2.1, L.2.2.2.2.1, L.2.2.2.2.2.1, L.2.2.2.2.2.2.1, L.2.2.2.2.2.2.2.1, L.2.2.2.2.2.2.2.2.1, L.2.2.2.2.2.2.2.2.2 + 1) 0 x1 (P.2.2.2.1 + 1) (L.2.2.2.2.2.2.2.2.2 + 1) (-1) (-1)).1) : vz_C l (dC, dI) classes [(cI, .int), (cZ, .boolean), (cQ, .object "BinTrees$Person")] y_B_make (Cond.code y_B_make b_B_make 2 (some .int) :: vz_tbl) ({ frames := 6, cells := 0, slots := 0, locals := 141 }) [.ref b0, .int x1] (wB cI cZ cQ b0 b1 u0 F ++ wL cI cZ u0 u1 u2 u3 u4 u5 u6 u7 u8 L ++ wP cI cZ p0 p1 h0 a1 a2 a3 a4 P) (some (.int ((m_B_make L P x1).1))) (wB cI cZ cQ b0 b1 u0 F ++ wL cI cZ u0 u1 u2 u3 u4 u5 u6 u7 u8 ((m_B_make L P x1).2.1) ++ wP cI cZ p0 p1 h0 a1 a2 a3 a4 ((m_B_make L P x1).2.2)) := by
  generalize hres : (m_B_make L P x1) = RES
  refine vz_C.of (by decide) (Nat.le_of_ble_eq_true rfl) ?_
  intro p e s m below meth c ls E hl hK hP hD hS
  obtain ⟨hx, hb, hr, hml, hown, hT, hlocks⟩ := E
  obtain ⟨Q, hQ⟩ : ∃ Q, Q = MQ below (vz_Q (dC, dI) classes (wB cI cZ cQ b0 b1 u0 F ++ wL cI cZ u0 u1 u2 u3 u4 u5 u6 u7 u8 L ++ wP cI cZ p0 p1 h0 a1 a2 a3 a4 P) (some (.int RES.1)) (wB cI cZ cQ b0 b1 u0 F ++ wL cI cZ u0 u1 u2 u3 u4 u5 u6 u7 u8 RES.2.1 ++ wP cI cZ p0 p1 h0 a1 a2 a3 a4 RES.2.2)) ([.ref b0, .int x1] : List Value).toArray s 0 0 (vz_A (wB cI cZ cQ b0 b1 u0 F ++ wL cI cZ u0 u1 u2 u3 u4 u5 u6 u7 u8 L ++ wP cI cZ p0 p1 h0 a1 a2 a3 a4 P)) := ⟨_, rfl⟩
  rw [← hQ]
  have hl : lv_has ls 2 [(0, .ref b0), (1, .int x1)] := hl
  have T0 := ti_0
  have T1 := ti_1
  have Tm := ti_m1
  have T8 := ti_8
  have T39 := ti_39
  have T40 := ti_40
  have T4 := ti_4
  have T300 := ti_300
  have hS0 := hS
  refine lv_aload_n hx hb d_B_make_0 rfl (lv_at hl 0 rfl) ?_
  refine lv_iload_n hx hb d_B_make_1 rfl (lv_at hl 1 rfl) ?_
  have hc := c_B_mayWrite l dC dI cI cZ cQ b0 b1 F u0 u1 u2 u3 u4 u5 u6 u7 u8 L x1 
  generalize hg_2 : (m_B_mayWrite L x1) = g_2 at hc
  refine vz_callV (As := [.int x1]) (rest := []) ⟨hx, hb, hml, hown, hT⟩ hc (vz_goodV kw_139 kw_141 ks_0 kw_1 kw_142) ⟨rfl, hd_B_mayWrite⟩ ⟨⟨rfl, rfl⟩, Nat.le_of_ble_eq_true rfl, Nat.le_of_ble_eq_true rfl⟩ hK hP hD hS [0, 1, 2, 3, 4, 5, 6, 7, 8, 9, 10] rfl (hC_B_make_2 cI cZ cQ b0 b1 u0 u1 u2 u3 u4 u5 u6 u7 u8 p0 p1 h0 a1 a2 a3 a4 F L P) (hF_B_mayWrite cI cZ cQ _ _ _ _) 0 3 rfl rfl rfl rfl hl.1 rfl (Nat.le_of_ble_eq_true rfl) ⟨Nat.zero_le _, Nat.zero_le _⟩ d_B_make_2 (fun H locs hP hD hS => ?_)
  have hP : va_P (dC, dI) classes (wB cI cZ cQ b0 b1 u0 F ++ wL cI cZ u0 u1 u2 u3 u4 u5 u6 u7 u8 L ++ wP cI cZ p0 p1 h0 a1 a2 a3 a4 P) H := vz_reP (hU_B_make_2 cI cZ cQ b0 b1 u0 u1 u2 u3 u4 u5 u6 u7 u8 p0 p1 h0 a1 a2 a3 a4 F L P ) hP
  have hD : va_D (vz_A (wB cI cZ cQ b0 b1 u0 F ++ wL cI cZ u0 u1 u2 u3 u4 u5 u6 u7 u8 L ++ wP cI cZ p0 p1 h0 a1 a2 a3 a4 P)) (wB cI cZ cQ b0 b1 u0 F ++ wL cI cZ u0 u1 u2 u3 u4 u5 u6 u7 u8 L ++ wP cI cZ p0 p1 h0 a1 a2 a3 a4 P) := vz_reD (hU_B_make_2 cI cZ cQ b0 b1 u0 u1 u2 u3 u4 u5 u6 u7 u8 p0 p1 h0 a1 a2 a3 a4 F L P ) hD
  refine W.eq (g2 := F0 m 5 ls [.int g_2]) rfl ?_
  refine lv_if_eq (tgt := 20) hx hb d_B_make_5 (by decide) (fun c_5 => ?_) (fun c_5 => ?_)
  · have z_5 : g_2.toInt = (0 : Int32).toInt := congrArg Int32.toInt c_5
    refine lv_iconst (v := -1) hx hb d_B_make_20 (by decide) ?_
    rw [m_B_make] at hres
    try rw [hg_2] at hres
    rw [if_pos c_5] at hres
    subst hres
    subst hQ
    exact vz_iret hx hb hr hlocks d_B_make_21 hS rfl hP
  · have z_5 : ¬ g_2.toInt = (0 : Int32).toInt := mt Int32.toInt_inj.mp c_5
    refine lv_aload_n hx hb d_B_make_8 rfl (lv_at hl 0 rfl) ?_
    refine va_get (D := (dC, dI)) (ci := 3) (v := .ref u0) (C := R_B) (T := F_B) (N := 2) hx hb hT i_B hown hK hP 0 rfl rfl 0 (by decide) (hT _ kw_128) (fun _ h9 => h9) rfl d_B_make_9 ?_
    refine va_get (D := (dC, dI)) (ci := 1) (v := .int L.2.2.2.2.2.2.2.2.2) (C := R_L) (T := F_L) (N := 10) hx hb hT i_L hown hK hP 2 rfl rfl 9 (by decide) (hT _ kw_46) (fun _ h9 => h9) rfl d_B_make_12 ?_
    refine lv_bipush (v := 39) hx hb d_B_make_15 (by decide) ?_
    refine lv_icmp_lt (tgt := 22) hx hb d_B_make_17 (by decide) (fun c_17 => ?_) (fun c_17 => ?_)
    · have z_17 : L.2.2.2.2.2.2.2.2.2.toInt < (39 : Int32).toInt := Int32.lt_iff_toInt_lt.mp c_17
      refine lv_aload_n hx hb d_B_make_22 rfl (lv_at hl 0 rfl) ?_
      refine va_get (D := (dC, dI)) (ci := 3) (v := .ref u0) (C := R_B) (T := F_B) (N := 2) hx hb hT i_B hown hK hP 0 rfl rfl 0 (by decide) (hT _ kw_128) (fun _ h9 => h9) rfl d_B_make_23 ?_
      refine lv_dup hx hb d_B_make_26 rfl ?_
      refine va_get (D := (dC, dI)) (ci := 1) (v := .int L.2.2.2.2.2.2.2.2.2) (C := R_L) (T := F_L) (N := 10) hx hb hT i_L hown hK hP 2 rfl rfl 9 (by decide) (hT _ kw_46) (fun _ h9 => h9) rfl d_B_make_27 ?_
      refine lv_iconst (v := 1) hx hb d_B_make_30 (by decide) ?_
      refine lv_iadd hx hb d_B_make_31 ?_
      refine va_put (D := (dC, dI)) (ci := 1) (v := .int (L.2.2.2.2.2.2.2.2.2 + 1)) (ty := .int) (C := R_L) (T := F_L) (N := 10) hx hb hT i_L tt_L tt_L_ok n_L hown hK hP hD hS 2 rfl rfl 9 (by decide) (hT _ kw_46) (fun _ h9 => h9) rfl (by decide +kernel) rfl rfl (Nat.le_of_ble_eq_true rfl) d_B_make_32 (fun H locs hP hD hS => ?_)
      have hP : va_P (dC, dI) classes (wB cI cZ cQ b0 b1 u0 F ++ wL cI cZ u0 u1 u2 u3 u4 u5 u6 u7 u8 (L.1, L.2.1, L.2.2.1, L.2.2.2.1, L.2.2.2.2.1, L.2.2.2.2.2.1, L.2.2.2.2.2.2.1, L.2.2.2.2.2.2.2.1, L.2.2.2.2.2.2.2.2.1, L.2.2.2.2.2.2.2.2.2 + 1) ++ wP cI cZ p0 p1 h0 a1 a2 a3 a4 P) H := vz_reP (hW_B_make_32 cI cZ cQ b0 b1 u0 u1 u2 u3 u4 u5 u6 u7 u8 p0 p1 h0 a1 a2 a3 a4 F L P (L.2.2.2.2.2.2.2.2.2 + 1)) hP
      have hD : va_D (vz_A (wB cI cZ cQ b0 b1 u0 F ++ wL cI cZ u0 u1 u2 u3 u4 u5 u6 u7 u8 L ++ wP cI cZ p0 p1 h0 a1 a2 a3 a4 P)) (wB cI cZ cQ b0 b1 u0 F ++ wL cI cZ u0 u1 u2 u3 u4 u5 u6 u7 u8 (L.1, L.2.1, L.2.2.1, L.2.2.2.1, L.2.2.2.2.1, L.2.2.2.2.2.1, L.2.2.2.2.2.2.1, L.2.2.2.2.2.2.2.1, L.2.2.2.2.2.2.2.2.1, L.2.2.2.2.2.2.2.2.2 + 1) ++ wP cI cZ p0 p1 h0 a1 a2 a3 a4 P) := vz_reD (hW_B_make_32 cI cZ cQ b0 b1 u0 u1 u2 u3 u4 u5 u6 u7 u8 p0 p1 h0 a1 a2 a3 a4 F L P (L.2.2.2.2.2.2.2.2.2 + 1)) hD
      refine lv_aload_n hx hb d_B_make_35 rfl (lv_at hl 0 rfl) ?_
      refine lv_iload_n hx hb d_B_make_36 rfl (lv_at hl 1 rfl) ?_
      refine lv_aload_n hx hb d_B_make_37 rfl (lv_at hl 0 rfl) ?_
      refine va_get (D := (dC, dI)) (ci := 3) (v := .ref u0) (C := R_B) (T := F_B) (N := 2) hx hb hT i_B hown hK hP 0 rfl rfl 0 (by decide) (hT _ kw_128) (fun _ h9 => h9) rfl d_B_make_38 ?_
      refine lv_iconst (v := 0) hx hb d_B_make_41 (by decide) ?_
      refine lv_iload_n hx hb d_B_make_42 rfl (lv_at hl 1 rfl) ?_
      refine lv_aload_n hx hb d_B_make_43 rfl (lv_at hl 0 rfl) ?_
      refine va_get (D := (dC, dI)) (ci := 3) (v := .ref b1) (C := R_B) (T := F_B) (N := 2) hx hb hT i_B hown hK hP 0 rfl rfl 1 (by decide) (hT _ kw_129) (fun _ h9 => h9) rfl d_B_make_44 ?_
      refine lv_iload_n hx hb d_B_make_47 rfl (lv_at hl 1 rfl) ?_
      refine va_aldq hx hb hK hP 1 2 rfl rfl (by have hn := mw_t (L := L) (x1 := x1) (by rw [hg_2]; assumption); exact ti_vp (by omega) (by omega)) d_B_make_48 ?_
      rw [show va_rf (F x1.toNatClampNeg) = .ref p0 from by have hn := mw_t (L := L) (x1 := x1) (by rw [hg_2]; assumption); rw [hF hn.1.1 hn.1.2]; rfl]
      refine va_get (D := (dC, dI)) (ci := 2) (v := .int P.2.2.2.1) (C := R_P) (T := F_P) (N := 5) hx hb hT i_P hown hK hP 11 rfl rfl 3 (by decide) (hT _ kw_113) (fun _ h9 => h9) rfl d_B_make_49 ?_
      refine lv_iconst (v := 1) hx hb d_B_make_52 (by decide) ?_
      refine lv_iadd hx hb d_B_make_53 ?_
      refine lv_aload_n hx hb d_B_make_54 rfl (lv_at hl 0 rfl) ?_
      refine va_get (D := (dC, dI)) (ci := 3) (v := .ref u0) (C := R_B) (T := F_B) (N := 2) hx hb hT i_B hown hK hP 0 rfl rfl 0 (by decide) (hT _ kw_128) (fun _ h9 => h9) rfl d_B_make_55 ?_
      refine va_get (D := (dC, dI)) (ci := 1) (v := .int (L.2.2.2.2.2.2.2.2.2 + 1)) (C := R_L) (T := F_L) (N := 10) hx hb hT i_L hown hK hP 2 rfl rfl 9 (by decide) (hT _ kw_46) (fun _ h9 => h9) rfl d_B_make_58 ?_
      refine lv_iconst (v := -1) hx hb d_B_make_61 (by decide) ?_
      refine lv_iconst (v := -1) hx hb d_B_make_62 (by decide) ?_
      have hc := c_L_add l dC dI cI cZ cQ u0 u1 u2 u3 u4 u5 u6 u7 u8 (L.1, L.2.1, L.2.2.1, L.2.2.2.1, L.2.2.2.2.1, L.2.2.2.2.2.1, L.2.2.2.2.2.2.1, L.2.2.2.2.2.2.2.1, L.2.2.2.2.2.2.2.2.1, L.2.2.2.2.2.2.2.2.2 + 1) 0 x1 (P.2.2.2.1 + 1) (L.2.2.2.2.2.2.2.2.2 + 1) (-1) (-1) (by have hn := mw_t (L := L) (x1 := x1) (by rw [hg_2]; assumption); have hl1 := hL.1; (try dsimp only); omega) (hL.2.1) (by intro h; first | exact absurd h (by decide) | (have := hz h; omega))
      generalize hg_63 : (m_L_add (L.1, L.2.1, L.2.2.1, L.2.2.2.1, L.2.2.2.2.1, L.2.2.2.2.2.1, L.2.2.2.2.2.2.1, L.2.2.2.2.2.2.2.1, L.2.2.2.2.2.2.2.2.1, L.2.2.2.2.2.2.2.2.2 + 1) 0 x1 (P.2.2.2.1 + 1) (L.2.2.2.2.2.2.2.2.2 + 1) (-1) (-1)) = g_63 at hc
      refine vz_callV (As := [.int 0, .int x1, .int (P.2.2.2.1 + 1), .int (L.2.2.2.2.2.2.2.2.2 + 1), .int (-1), .int (-1)]) (rest := [.int x1, .ref b0]) ⟨hx, hb, hml, hown, hT⟩ hc (vz_goodV kw_146 kw_147 kw_148 kw_2 kw_149) ⟨rfl, hd_L_add⟩ ⟨⟨rfl, rfl⟩, Nat.le_of_ble_eq_true rfl, Nat.le_of_ble_eq_true rfl⟩ hK hP hD hS [2, 3, 4, 5, 6, 7, 8, 9, 10] rfl (hC_B_make_63 cI cZ cQ b0 b1 u0 u1 u2 u3 u4 u5 u6 u7 u8 p0 p1 h0 a1 a2 a3 a4 F (L.1, L.2.1, L.2.2.1, L.2.2.2.1, L.2.2.2.2.1, L.2.2.2.2.2.1, L.2.2.2.2.2.2.1, L.2.2.2.2.2.2.2.1, L.2.2.2.2.2.2.2.2.1, L.2.2.2.2.2.2.2.2.2 + 1) P) (hF_L_add cI cZ cQ _ _) 0 1 rfl rfl rfl rfl hl.1 rfl (Nat.le_of_ble_eq_true rfl) ⟨Nat.zero_le _, Nat.zero_le _⟩ d_B_make_63 (fun H locs hP hD hS => ?_)
      have hP : va_P (dC, dI) classes (wB cI cZ cQ b0 b1 u0 F ++ wL cI cZ u0 u1 u2 u3 u4 u5 u6 u7 u8 g_63.2 ++ wP cI cZ p0 p1 h0 a1 a2 a3 a4 P) H := vz_reP (hU_B_make_63 cI cZ cQ b0 b1 u0 u1 u2 u3 u4 u5 u6 u7 u8 p0 p1 h0 a1 a2 a3 a4 F (L.1, L.2.1, L.2.2.1, L.2.2.2.1, L.2.2.2.2.1, L.2.2.2.2.2.1, L.2.2.2.2.2.2.1, L.2.2.2.2.2.2.2.1, L.2.2.2.2.2.2.2.2.1, L.2.2.2.2.2.2.2.2.2 + 1) P g_63.2) hP
      have hD : va_D (vz_A (wB cI cZ cQ b0 b1 u0 F ++ wL cI cZ u0 u1 u2 u3 u4 u5 u6 u7 u8 L ++ wP cI cZ p0 p1 h0 a1 a2 a3 a4 P)) (wB cI cZ cQ b0 b1 u0 F ++ wL cI cZ u0 u1 u2 u3 u4 u5 u6 u7 u8 g_63.2 ++ wP cI cZ p0 p1 h0 a1 a2 a3 a4 P) := vz_reD (hU_B_make_63 cI cZ cQ b0 b1 u0 u1 u2 u3 u4 u5 u6 u7 u8 p0 p1 h0 a1 a2 a3 a4 F (L.1, L.2.1, L.2.2.1, L.2.2.2.1, L.2.2.2.2.1, L.2.2.2.2.2.1, L.2.2.2.2.2.2.1, L.2.2.2.2.2.2.2.1, L.2.2.2.2.2.2.2.2.1, L.2.2.2.2.2.2.2.2.2 + 1) P g_63.2) hD
      refine W.eq (g2 := F0 m 66 ls [.int g_63.1, .int x1, .ref b0]) rfl ?_
      have hc := c_B_told l dC dI cI cZ cQ b0 b1 F u0 u1 u2 u3 u4 u5 u6 u7 u8 g_63.2 p0 p1 h0 a1 a2 a3 a4 P x1 g_63.1 (by have hn := mw_t (L := L) (x1 := x1) (by rw [hg_2]; assumption); exact hF hn.1.1 hn.1.2) (by have hn := mw_t (L := L) (x1 := x1) (by rw [hg_2]; assumption); exact hn.1) (by have hn := mw_t (L := L) (x1 := x1) (by rw [hg_2]; assumption); rw [← hg_63]; exact hA hn.1 hn.2 (by omega))
      generalize hg_66 : (m_B_told g_63.2 P x1 g_63.1) = g_66 at hc
      refine vz_callV (As := [.int x1, .int g_63.1]) (rest := []) ⟨hx, hb, hml, hown, hT⟩ hc (vz_goodV kw_158 kw_160 ks_3 kw_1 kw_161) ⟨rfl, hd_B_told⟩ ⟨⟨rfl, rfl⟩, Nat.le_of_ble_eq_true rfl, Nat.le_of_ble_eq_true rfl⟩ hK hP hD hS [0, 1, 2, 3, 4, 5, 6, 7, 8, 9, 10, 11, 12, 13, 14, 15, 16, 17] rfl (hC_B_make_66 cI cZ cQ b0 b1 u0 u1 u2 u3 u4 u5 u6 u7 u8 p0 p1 h0 a1 a2 a3 a4 F g_63.2 P) (hF_B_told cI cZ cQ _ _ _ _ _ _) 0 3 rfl rfl rfl rfl hl.1 rfl (Nat.le_of_ble_eq_true rfl) ⟨Nat.zero_le _, Nat.zero_le _⟩ d_B_make_66 (fun H locs hP hD hS => ?_)
      have hP : va_P (dC, dI) classes (wB cI cZ cQ b0 b1 u0 F ++ wL cI cZ u0 u1 u2 u3 u4 u5 u6 u7 u8 g_63.2 ++ wP cI cZ p0 p1 h0 a1 a2 a3 a4 g_66.2) H := vz_reP (hU_B_make_66 cI cZ cQ b0 b1 u0 u1 u2 u3 u4 u5 u6 u7 u8 p0 p1 h0 a1 a2 a3 a4 F g_63.2 P g_66.2) hP
      have hD : va_D (vz_A (wB cI cZ cQ b0 b1 u0 F ++ wL cI cZ u0 u1 u2 u3 u4 u5 u6 u7 u8 L ++ wP cI cZ p0 p1 h0 a1 a2 a3 a4 P)) (wB cI cZ cQ b0 b1 u0 F ++ wL cI cZ u0 u1 u2 u3 u4 u5 u6 u7 u8 g_63.2 ++ wP cI cZ p0 p1 h0 a1 a2 a3 a4 g_66.2) := vz_reD (hU_B_make_66 cI cZ cQ b0 b1 u0 u1 u2 u3 u4 u5 u6 u7 u8 p0 p1 h0 a1 a2 a3 a4 F g_63.2 P g_66.2) hD
      refine W.eq (g2 := F0 m 69 ls [.int g_66.1]) rfl ?_
      refine lv_pop hx hb d_B_make_69 rfl ?_
      refine lv_aload_n hx hb d_B_make_70 rfl (lv_at hl 0 rfl) ?_
      refine va_get (D := (dC, dI)) (ci := 3) (v := .ref u0) (C := R_B) (T := F_B) (N := 2) hx hb hT i_B hown hK hP 0 rfl rfl 0 (by decide) (hT _ kw_128) (fun _ h9 => h9) rfl d_B_make_71 ?_
      refine va_get (D := (dC, dI)) (ci := 1) (v := .int g_63.2.2.2.2.2.2.2.2.2.2) (C := R_L) (T := F_L) (N := 10) hx hb hT i_L hown hK hP 2 rfl rfl 9 (by decide) (hT _ kw_46) (fun _ h9 => h9) rfl d_B_make_74 ?_
      rw [m_B_make] at hres
      try rw [hg_2] at hres
      rw [if_neg c_5, if_pos c_17] at hres
      try rw [hg_63] at hres
      try rw [hg_66] at hres
      subst hres
      subst hQ
      exact vz_iret hx hb hr hlocks d_B_make_77 hS rfl hP
    · have z_17 : ¬ L.2.2.2.2.2.2.2.2.2.toInt < (39 : Int32).toInt := mt Int32.lt_iff_toInt_lt.mpr c_17
      refine lv_iconst (v := -1) hx hb d_B_make_20 (by decide) ?_
      rw [m_B_make] at hres
      try rw [hg_2] at hres
      rw [if_neg c_5, if_neg c_17] at hres
      subst hres
      subst hQ
      exact vz_iret hx hb hr hlocks d_B_make_21 hS rfl hP
