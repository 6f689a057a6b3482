theorem d_B_object_0 : decode b_B_object 0 = .ok (.iload_n 1, 1) := by decide +kernel
theorem d_B_object_1 : decode b_B_object 1 = .ok (.invokestatic 55, 3) := by decide +kernel
theorem d_B_object_4 : decode b_B_object 4 = .ok (.ifCond .eq 11, 3) := by decide +kernel
theorem d_B_object_7 : decode b_B_object 7 = .ok (.aload_n 0, 1) := by decide +kernel
theorem d_B_object_8 : decode b_B_object 8 = .ok (.iload_n 2, 1) := by decide +kernel
theorem d_B_object_9 : decode b_B_object 9 = .ok (.invokevirtual 45, 3) := by decide +kernel
theorem d_B_object_12 : decode b_B_object 12 = .ok (.ifCond .ne 5, 3) := by decide +kernel
theorem d_B_object_15 : decode b_B_object 15 = .ok (.iconst (-1), 1) := by decide +kernel
theorem d_B_object_16 : decode b_B_object 16 = .ok (.ireturn, 1) := by decide +kernel
theorem d_B_object_17 : decode b_B_object 17 = .ok (.aload_n 0, 1) := by decide +kernel
theorem d_B_object_18 : decode b_B_object 18 = .ok (.getfield 18, 3) := by decide +kernel
theorem d_B_object_21 : decode b_B_object 21 = .ok (.iload_n 1, 1) := by decide +kernel
theorem d_B_object_22 : decode b_B_object 22 = .ok (.aaload, 1) := by decide +kernel
theorem d_B_object_23 : decode b_B_object 23 = .ok (.getfield 79, 3) := by decide +kernel
theorem d_B_object_26 : decode b_B_object 26 = .ok (.astore 4, 2) := by decide +kernel
theorem d_B_object_28 : decode b_B_object 28 = .ok (.aload 4, 2) := by decide +kernel
theorem d_B_object_30 : decode b_B_object 30 = .ok (.getfield 83, 3) := by decide +kernel
theorem d_B_object_33 : decode b_B_object 33 = .ok (.iload_n 2, 1) := by decide +kernel
theorem d_B_object_34 : decode b_B_object 34 = .ok (.baload, 1) := by decide +kernel
theorem d_B_object_35 : decode b_B_object 35 = .ok (.ifCond .ne 5, 3) := by decide +kernel
theorem d_B_object_38 : decode b_B_object 38 = .ok (.iconst (-1), 1) := by decide +kernel
theorem d_B_object_39 : decode b_B_object 39 = .ok (.ireturn, 1) := by decide +kernel
theorem d_B_object_40 : decode b_B_object 40 = .ok (.iload_n 3, 1) := by decide +kernel
theorem d_B_object_41 : decode b_B_object 41 = .ok (.tableswitch 97 0 5 #[39, 47, 60, 67, 82, 89], 39) := by decide +kernel
theorem d_B_object_80 : decode b_B_object 80 = .ok (.aload 4, 2) := by decide +kernel
theorem d_B_object_82 : decode b_B_object 82 = .ok (.getfield 89, 3) := by decide +kernel
theorem d_B_object_85 : decode b_B_object 85 = .ok (.iload_n 2, 1) := by decide +kernel
theorem d_B_object_86 : decode b_B_object 86 = .ok (.iaload, 1) := by decide +kernel
theorem d_B_object_87 : decode b_B_object 87 = .ok (.ireturn, 1) := by decide +kernel
theorem d_B_object_88 : decode b_B_object 88 = .ok (.aload 4, 2) := by decide +kernel
theorem d_B_object_90 : decode b_B_object 90 = .ok (.iload_n 2, 1) := by decide +kernel
theorem d_B_object_91 : decode b_B_object 91 = .ok (.aload 4, 2) := by decide +kernel
theorem d_B_object_93 : decode b_B_object 93 = .ok (.iload_n 2, 1) := by decide +kernel
theorem d_B_object_94 : decode b_B_object 94 = .ok (.invokevirtual 92, 3) := by decide +kernel
theorem d_B_object_97 : decode b_B_object 97 = .ok (.invokevirtual 96, 3) := by decide +kernel
theorem d_B_object_100 : decode b_B_object 100 = .ok (.ireturn, 1) := by decide +kernel
theorem d_B_object_101 : decode b_B_object 101 = .ok (.aload 4, 2) := by decide +kernel
theorem d_B_object_103 : decode b_B_object 103 = .ok (.iload_n 2, 1) := by decide +kernel
theorem d_B_object_104 : decode b_B_object 104 = .ok (.invokevirtual 99, 3) := by decide +kernel
theorem d_B_object_107 : decode b_B_object 107 = .ok (.ireturn, 1) := by decide +kernel
theorem d_B_object_108 : decode b_B_object 108 = .ok (.aload 4, 2) := by decide +kernel
theorem d_B_object_110 : decode b_B_object 110 = .ok (.iload_n 2, 1) := by decide +kernel
theorem d_B_object_111 : decode b_B_object 111 = .ok (.invokevirtual 92, 3) := by decide +kernel
theorem d_B_object_114 : decode b_B_object 114 = .ok (.ifCond .ne 7, 3) := by decide +kernel
theorem d_B_object_117 : decode b_B_object 117 = .ok (.iconst 0, 1) := by decide +kernel
theorem d_B_object_118 : decode b_B_object 118 = .ok (.goto 4, 3) := by decide +kernel
theorem d_B_object_121 : decode b_B_object 121 = .ok (.iconst 1, 1) := by decide +kernel
theorem d_B_object_122 : decode b_B_object 122 = .ok (.ireturn, 1) := by decide +kernel
theorem d_B_object_123 : decode b_B_object 123 = .ok (.aload 4, 2) := by decide +kernel
theorem d_B_object_125 : decode b_B_object 125 = .ok (.iload_n 2, 1) := by decide +kernel
theorem d_B_object_126 : decode b_B_object 126 = .ok (.invokevirtual 102, 3) := by decide +kernel
theorem d_B_object_129 : decode b_B_object 129 = .ok (.ireturn, 1) := by decide +kernel
theorem d_B_object_130 : decode b_B_object 130 = .ok (.aload 4, 2) := by decide +kernel
theorem d_B_object_132 : decode b_B_object 132 = .ok (.getfield 105, 3) := by decide +kernel
theorem d_B_object_135 : decode b_B_object 135 = .ok (.iload_n 2, 1) := by decide +kernel
theorem d_B_object_136 : decode b_B_object 136 = .ok (.iaload, 1) := by decide +kernel
theorem d_B_object_137 : decode b_B_object 137 = .ok (.ireturn, 1) := by decide +kernel
theorem d_B_object_138 : decode b_B_object 138 = .ok (.iconst (-1), 1) := by decide +kernel
theorem d_B_object_139 : decode b_B_object 139 = .ok (.ireturn, 1) := by decide +kernel
theorem hC_B_object_1 (cI cZ cQ : ClassId) (q0 q1 q2 q3 q4 q5 q6 q7 q8 q9 q10 q11 q12 q13 q14 q15 q16 q17 : Nat) (S0 : (Nat → Option Nat)) (S1 : cL) (S2 : cP) : ([] : List Nat).map (fun i => (wB cI cZ cQ q0 q1 q2 S0 ++ wL cI cZ q2 q3 q4 q5 q6 q7 q8 q9 q10 S1 ++ wP cI cZ q11 q12 q13 q14 q15 q16 q17 S2 : va_W)[i]?) = (([] : va_W) : va_W).map some := rfl
theorem hU_B_object_1 (cI cZ cQ : ClassId) (q0 q1 q2 q3 q4 q5 q6 q7 q8 q9 q10 q11 q12 q13 q14 q15 q16 q17 : Nat) (S0 : (Nat → Option Nat)) (S1 : cL) (S2 : cP)  : vz_put (wB cI cZ cQ q0 q1 q2 S0 ++ wL cI cZ q2 q3 q4 q5 q6 q7 q8 q9 q10 S1 ++ wP cI cZ q11 q12 q13 q14 q15 q16 q17 S2 : va_W) [] (([] : va_W) : va_W) = wB cI cZ cQ q0 q1 q2 S0 ++ wL cI cZ q2 q3 q4 q5 q6 q7 q8 q9 q10 S1 ++ wP cI cZ q11 q12 q13 q14 q15 q16 q17 S2 := (show vz_put ([(q0, .inr (3, [.ref q2, .ref q1])), (q1, .inl (cQ, 4, .inr (.inr (.inr (.inr S0))))), (q2, .inr (1, [.ref q3, .ref q4, .ref q5, .ref q6, .ref q7, .ref q8, .ref q9, .ref q10, .int S1.2.2.2.2.2.2.2.2.1, .int S1.2.2.2.2.2.2.2.2.2])), (q3, .inl (cI, 301, .inl S1.1)), (q4, .inl (cI, 301, .inl S1.2.1)), (q5, .inl (cI, 301, .inl S1.2.2.1)), (q6, .inl (cI, 301, .inl S1.2.2.2.1)), (q7, .inl (cI, 301, .inl S1.2.2.2.2.1)), (q8, .inl (cI, 301, .inl S1.2.2.2.2.2.1)), (q9, .inl (cI, 301, .inl S1.2.2.2.2.2.2.1)), (q10, .inl (cI, 300, .inl S1.2.2.2.2.2.2.2.1)), (q11, .inr (2, [.ref q12, .ref q13, .int S2.2.2.1, .int S2.2.2.2.1, .int S2.2.2.2.2])), (q12, .inl (cI, 301, .inl S2.1)), (q13, .inr (0, [.ref q14, .ref q15, .ref q16, .ref q17, .int S2.2.1.2.2.2.2])), (q14, .inl (cZ, 40, .inl S2.2.1.1)), (q15, .inl (cI, 40, .inl S2.2.1.2.1)), (q16, .inl (cI, 40, .inl S2.2.1.2.2.1)), (q17, .inl (cI, 40, .inl S2.2.1.2.2.2.1))] : va_W) [] ([] : va_W) = [(q0, .inr (3, [.ref q2, .ref q1])), (q1, .inl (cQ, 4, .inr (.inr (.inr (.inr S0))))), (q2, .inr (1, [.ref q3, .ref q4, .ref q5, .ref q6, .ref q7, .ref q8, .ref q9, .ref q10, .int S1.2.2.2.2.2.2.2.2.1, .int S1.2.2.2.2.2.2.2.2.2])), (q3, .inl (cI, 301, .inl S1.1)), (q4, .inl (cI, 301, .inl S1.2.1)), (q5, .inl (cI, 301, .inl S1.2.2.1)), (q6, .inl (cI, 301, .inl S1.2.2.2.1)), (q7, .inl (cI, 301, .inl S1.2.2.2.2.1)), (q8, .inl (cI, 301, .inl S1.2.2.2.2.2.1)), (q9, .inl (cI, 301, .inl S1.2.2.2.2.2.2.1)), (q10, .inl (cI, 300, .inl S1.2.2.2.2.2.2.2.1)), (q11, .inr (2, [.ref q12, .ref q13, .int S2.2.2.1, .int S2.2.2.2.1, .int S2.2.2.2.2])), (q12, .inl (cI, 301, .inl S2.1)), (q13, .inr (0, [.ref q14, .ref q15, .ref q16, .ref q17, .int S2.2.1.2.2.2.2])), (q14, .inl (cZ, 40, .inl S2.2.1.1)), (q15, .inl (cI, 40, .inl S2.2.1.2.1)), (q16, .inl (cI, 40, .inl S2.2.1.2.2.1)), (q17, .inl (cI, 40, .inl S2.2.1.2.2.2.1))] from rfl).trans rfl
theorem hC_B_object_9 (cI cZ cQ : ClassId) (q0 q1 q2 q3 q4 q5 q6 q7 q8 q9 q10 q11 q12 q13 q14 q15 q16 q17 : Nat) (S0 : (Nat → Option Nat)) (S1 : cL) (S2 : cP) : ([0, 1, 2, 3, 4, 5, 6, 7, 8, 9, 10] : List Nat).map (fun i => (wB cI cZ cQ q0 q1 q2 S0 ++ wL cI cZ q2 q3 q4 q5 q6 q7 q8 q9 q10 S1 ++ wP cI cZ q11 q12 q13 q14 q15 q16 q17 S2 : va_W)[i]?) = (wB cI cZ cQ q0 q1 q2 S0 ++ wL cI cZ q2 q3 q4 q5 q6 q7 q8 q9 q10 S1 : va_W).map some := rfl
theorem hU_B_object_9 (cI cZ cQ : ClassId) (q0 q1 q2 q3 q4 q5 q6 q7 q8 q9 q10 q11 q12 q13 q14 q15 q16 q17 : Nat) (S0 : (Nat → Option Nat)) (S1 : cL) (S2 : cP)  : vz_put (wB cI cZ cQ q0 q1 q2 S0 ++ wL cI cZ q2 q3 q4 q5 q6 q7 q8 q9 q10 S1 ++ wP cI cZ q11 q12 q13 q14 q15 q16 q17 S2 : va_W) [0, 1, 2, 3, 4, 5, 6, 7, 8, 9, 10] (wB cI cZ cQ q0 q1 q2 S0 ++ wL cI cZ q2 q3 q4 q5 q6 q7 q8 q9 q10 S1 : va_W) = wB cI cZ cQ q0 q1 q2 S0 ++ wL cI cZ q2 q3 q4 q5 q6 q7 q8 q9 q10 S1 ++ wP cI cZ q11 q12 q13 q14 q15 q16 q17 S2 := (show vz_put ([(q0, .inr (3, [.ref q2, .ref q1])), (q1, .inl (cQ, 4, .inr (.inr (.inr (.inr S0))))), (q2, .inr (1, [.ref q3, .ref q4, .ref q5, .ref q6, .ref q7, .ref q8, .ref q9, .ref q10, .int S1.2.2.2.2.2.2.2.2.1, .int S1.2.2.2.2.2.2.2.2.2])), (q3, .inl (cI, 301, .inl S1.1)), (q4, .inl (cI, 301, .inl S1.2.1)), (q5, .inl (cI, 301, .inl S1.2.2.1)), (q6, .inl (cI, 301, .inl S1.2.2.2.1)), (q7, .inl (cI, 301, .inl S1.2.2.2.2.1)), (q8, .inl (cI, 301, .inl S1.2.2.2.2.2.1)), (q9, .inl (cI, 301, .inl S1.2.2.2.2.2.2.1)), (q10, .inl (cI, 300, .inl S1.2.2.2.2.2.2.2.1)), (q11, .inr (2, [.ref q12, .ref q13, .int S2.2.2.1, .int S2.2.2.2.1, .int S2.2.2.2.2])), (q12, .inl (cI, 301, .inl S2.1)), (q13, .inr (0, [.ref q14, .ref q15, .ref q16, .ref q17, .int S2.2.1.2.2.2.2])), (q14, .inl (cZ, 40, .inl S2.2.1.1)), (q15, .inl (cI, 40, .inl S2.2.1.2.1)), (q16, .inl (cI, 40, .inl S2.2.1.2.2.1)), (q17, .inl (cI, 40, .inl S2.2.1.2.2.2.1))] : va_W) [0, 1, 2, 3, 4, 5, 6, 7, 8, 9, 10] ([(q0, .inr (3, [.ref q2, .ref q1])), (q1, .inl (cQ, 4, .inr (.inr (.inr (.inr S0))))), (q2, .inr (1, [.ref q3, .ref q4, .ref q5, .ref q6, .ref q7, .ref q8, .ref q9, .ref q10, .int S1.2.2.2.2.2.2.2.2.1, .int S1.2.2.2.2.2.2.2.2.2])), (q3, .inl (cI, 301, .inl S1.1)), (q4, .inl (cI, 301, .inl S1.2.1)), (q5, .inl (cI, 301, .inl S1.2.2.1)), (q6, .inl (cI, 301, .inl S1.2.2.2.1)), (q7, .inl (cI, 301, .inl S1.2.2.2.2.1)), (q8, .inl (cI, 301, .inl S1.2.2.2.2.2.1)), (q9, .inl (cI, 301, .inl S1.2.2.2.2.2.2.1)), (q10, .inl (cI, 300, .inl S1.2.2.2.2.2.2.2.1))] : va_W) = [(q0, .inr (3, [.ref q2, .ref q1])), (q1, .inl (cQ, 4, .inr (.inr (.inr (.inr S0))))), (q2, .inr (1, [.ref q3, .ref q4, .ref q5, .ref q6, .ref q7, .ref q8, .ref q9, .ref q10, .int S1.2.2.2.2.2.2.2.2.1, .int S1.2.2.2.2.2.2.2.2.2])), (q3, .inl (cI, 301, .inl S1.1)), (q4, .inl (cI, 301, .inl S1.2.1)), (q5, .inl (cI, 301, .inl S1.2.2.1)), (q6, .inl (cI, 301, .inl S1.2.2.2.1)), (q7, .inl (cI, 301, .inl S1.2.2.2.2.1)), (q8, .inl (cI, 301, .inl S1.2.2.2.2.2.1)), (q9, .inl (cI, 301, .inl S1.2.2.2.2.2.2.1)), (q10, .inl (cI, 300, .inl S1.2.2.2.2.2.2.2.1)), (q11, .inr (2, [.ref q12, .ref q13, .int S2.2.2.1, .int S2.2.2.2.1, .int S2.2.2.2.2])), (q12, .inl (cI, 301, .inl S2.1)), (q13, .inr (0, [.ref q14, .ref q15, .ref q16, .ref q17, .int S2.2.1.2.2.2.2])), (q14, .inl (cZ, 40, .inl S2.2.1.1)), (q15, .inl (cI, 40, .inl S2.2.1.2.1)), (q16, .inl (cI, 40, .inl S2.2.1.2.2.1)), (q17, .inl (cI, 40, .inl S2.2.1.2.2.2.1))] from rfl).trans rfl
theorem hC_B_object_94 (cI cZ cQ : ClassId) (q0 q1 q2 q3 q4 q5 q6 q7 q8 q9 q10 q11 q12 q13 q14 q15 q16 q17 : Nat) (S0 : (Nat → Option Nat)) (S1 : cL) (S2 : cP) : ([13, 14, 15, 16, 17] : List Nat).map (fun i => (wB cI cZ cQ q0 q1 q2 S0 ++ wL cI cZ q2 q3 q4 q5 q6 q7 q8 q9 q10 S1 ++ wP cI cZ q11 q12 q13 q14 q15 q16 q17 S2 : va_W)[i]?) = (wT cI cZ q13 q14 q15 q16 q17 S2.2.1 : va_W).map some := rfl
theorem hF_T_topOf (cI cZ cQ : ClassId) {h0 a1 a2 a3 a4 : Nat} (S0 R0 : cT) : (wT cI cZ h0 a1 a2 a3 a4 R0 : va_W).map Prod.fst = (wT cI cZ h0 a1 a2 a3 a4 S0 : va_W).map Prod.fst := rfl
theorem hU_B_object_94 (cI cZ cQ : ClassId) (q0 q1 q2 q3 q4 q5 q6 q7 q8 q9 q10 q11 q12 q13 q14 q15 q16 q17 : Nat) (S0 : (Nat → Option Nat)) (S1 : cL) (S2 : cP)  : vz_put (wB cI cZ cQ q0 q1 q2 S0 ++ wL cI cZ q2 q3 q4 q5 q6 q7 q8 q9 q10 S1 ++ wP cI cZ q11 q12 q13 q14 q15 q16 q17 S2 : va_W) [13, 14, 15, 16, 17] (wT cI cZ q13 q14 q15 q16 q17 S2.2.1 : va_W) = wB cI cZ cQ q0 q1 q2 S0 ++ wL cI cZ q2 q3 q4 q5 q6 q7 q8 q9 q10 S1 ++ wP cI cZ q11 q12 q13 q14 q15 q16 q17 S2 := (show vz_put ([(q0, .inr (3, [.ref q2, .ref q1])), (q1, .inl (cQ, 4, .inr (.inr (.inr (.inr S0))))), (q2, .inr (1, [.ref q3, .ref q4, .ref q5, .ref q6, .ref q7, .ref q8, .ref q9, .ref q10, .int S1.2.2.2.2.2.2.2.2.1, .int S1.2.2.2.2.2.2.2.2.2])), (q3, .inl (cI, 301, .inl S1.1)), (q4, .inl (cI, 301, .inl S1.2.1)), (q5, .inl (cI, 301, .inl S1.2.2.1)), (q6, .inl (cI, 301, .inl S1.2.2.2.1)), (q7, .inl (cI, 301, .inl S1.2.2.2.2.1)), (q8, .inl (cI, 301, .inl S1.2.2.2.2.2.1)), (q9, .inl (cI, 301, .inl S1.2.2.2.2.2.2.1)), (q10, .inl (cI, 300, .inl S1.2.2.2.2.2.2.2.1)), (q11, .inr (2, [.ref q12, .ref q13, .int S2.2.2.1, .int S2.2.2.2.1, .int S2.2.2.2.2])), (q12, .inl (cI, 301, .inl S2.1)), (q13, .inr (0, [.ref q14, .ref q15, .ref q16, .ref q17, .int S2.2.1.2.2.2.2])), (q14, .inl (cZ, 40, .inl S2.2.1.1)), (q15, .inl (cI, 40, .inl S2.2.1.2.1)), (q16, .inl (cI, 40, .inl S2.2.1.2.2.1)), (q17, .inl (cI, 40, .inl S2.2.1.2.2.2.1))] : va_W) [13, 14, 15, 16, 17] ([(q13, .inr (0, [.ref q14, .ref q15, .ref q16, .ref q17, .int S2.2.1.2.2.2.2])), (q14, .inl (cZ, 40, .inl S2.2.1.1)), (q15, .inl (cI, 40, .inl S2.2.1.2.1)), (q16, .inl (cI, 40, .inl S2.2.1.2.2.1)), (q17, .inl (cI, 40, .inl S2.2.1.2.2.2.1))] : va_W) = [(q0, .inr (3, [.ref q2, .ref q1])), (q1, .inl (cQ, 4, .inr (.inr (.inr (.inr S0))))), (q2, .inr (1, [.ref q3, .ref q4, .ref q5, .ref q6, .ref q7, .ref q8, .ref q9, .ref q10, .int S1.2.2.2.2.2.2.2.2.1, .int S1.2.2.2.2.2.2.2.2.2])), (q3, .inl (cI, 301, .inl S1.1)), (q4, .inl (cI, 301, .inl S1.2.1)), (q5, .inl (cI, 301, .inl S1.2.2.1)), (q6, .inl (cI, 301, .inl S1.2.2.2.1)), (q7, .inl (cI, 301, .inl S1.2.2.2.2.1)), (q8, .inl (cI, 301, .inl S1.2.2.2.2.2.1)), (q9, .inl (cI, 301, .inl S1.2.2.2.2.2.2.1)), (q10, .inl (cI, 300, .inl S1.2.2.2.2.2.2.2.1)), (q11, .inr (2, [.ref q12, .ref q13, .int S2.2.2.1, .int S2.2.2.2.1, .int S2.2.2.2.2])), (q12, .inl (cI, 301, .inl S2.1)), (q13, .inr (0, [.ref q14, .ref q15, .ref q16, .ref q17, .int S2.2.1.2.2.2.2])), (q14, .inl (cZ, 40, .inl S2.2.1.1)), (q15, .inl (cI, 40, .inl S2.2.1.2.1)), (q16, .inl (cI, 40, .inl S2.2.1.2.2.1)), (q17, .inl (cI, 40, .inl S2.2.1.2.2.2.1))] from rfl).trans rfl
theorem hC_B_object_97 (cI cZ cQ : ClassId) (q0 q1 q2 q3 q4 q5 q6 q7 q8 q9 q10 q11 q12 q13 q14 q15 q16 q17 : Nat) (S0 : (Nat → Option Nat)) (S1 : cL) (S2 : cP) : ([13, 14, 15, 16, 17] : List Nat).map (fun i => (wB cI cZ cQ q0 q1 q2 S0 ++ wL cI cZ q2 q3 q4 q5 q6 q7 q8 q9 q10 S1 ++ wP cI cZ q11 q12 q13 q14 q15 q16 q17 S2 : va_W)[i]?) = (wT cI cZ q13 q14 q15 q16 q17 S2.2.1 : va_W).map some := rfl
theorem hU_B_object_97 (cI cZ cQ : ClassId) (q0 q1 q2 q3 q4 q5 q6 q7 q8 q9 q10 q11 q12 q13 q14 q15 q16 q17 : Nat) (S0 : (Nat → Option Nat)) (S1 : cL) (S2 : cP)  : vz_put (wB cI cZ cQ q0 q1 q2 S0 ++ wL cI cZ q2 q3 q4 q5 q6 q7 q8 q9 q10 S1 ++ wP cI cZ q11 q12 q13 q14 q15 q16 q17 S2 : va_W) [13, 14, 15, 16, 17] (wT cI cZ q13 q14 q15 q16 q17 S2.2.1 : va_W) = wB cI cZ cQ q0 q1 q2 S0 ++ wL cI cZ q2 q3 q4 q5 q6 q7 q8 q9 q10 S1 ++ wP cI cZ q11 q12 q13 q14 q15 q16 q17 S2 := (show vz_put ([(q0, .inr (3, [.ref q2, .ref q1])), (q1, .inl (cQ, 4, .inr (.inr (.inr (.inr S0))))), (q2, .inr (1, [.ref q3, .ref q4, .ref q5, .ref q6, .ref q7, .ref q8, .ref q9, .ref q10, .int S1.2.2.2.2.2.2.2.2.1, .int S1.2.2.2.2.2.2.2.2.2])), (q3, .inl (cI, 301, .inl S1.1)), (q4, .inl (cI, 301, .inl S1.2.1)), (q5, .inl (cI, 301, .inl S1.2.2.1)), (q6, .inl (cI, 301, .inl S1.2.2.2.1)), (q7, .inl (cI, 301, .inl S1.2.2.2.2.1)), (q8, .inl (cI, 301, .inl S1.2.2.2.2.2.1)), (q9, .inl (cI, 301, .inl S1.2.2.2.2.2.2.1)), (q10, .inl (cI, 300, .inl S1.2.2.2.2.2.2.2.1)), (q11, .inr (2, [.ref q12, .ref q13, .int S2.2.2.1, .int S2.2.2.2.1, .int S2.2.2.2.2])), (q12, .inl (cI, 301, .inl S2.1)), (q13, .inr (0, [.ref q14, .ref q15, .ref q16, .ref q17, .int S2.2.1.2.2.2.2])), (q14, .inl (cZ, 40, .inl S2.2.1.1)), (q15, .inl (cI, 40, .inl S2.2.1.2.1)), (q16, .inl (cI, 40, .inl S2.2.1.2.2.1)), (q17, .inl (cI, 40, .inl S2.2.1.2.2.2.1))] : va_W) [13, 14, 15, 16, 17] ([(q13, .inr (0, [.ref q14, .ref q15, .ref q16, .ref q17, .int S2.2.1.2.2.2.2])), (q14, .inl (cZ, 40, .inl S2.2.1.1)), (q15, .inl (cI, 40, .inl S2.2.1.2.1)), (q16, .inl (cI, 40, .inl S2.2.1.2.2.1)), (q17, .inl (cI, 40, .inl S2.2.1.2.2.2.1))] : va_W) = [(q0, .inr (3, [.ref q2, .ref q1])), (q1, .inl (cQ, 4, .inr (.inr (.inr (.inr S0))))), (q2, .inr (1, [.ref q3, .ref q4, .ref q5, .ref q6, .ref q7, .ref q8, .ref q9, .ref q10, .int S1.2.2.2.2.2.2.2.2.1, .int S1.2.2.2.2.2.2.2.2.2])), (q3, .inl (cI, 301, .inl S1.1)), (q4, .inl (cI, 301, .inl S1.2.1)), (q5, .inl (cI, 301, .inl S1.2.2.1)), (q6, .inl (cI, 301, .inl S1.2.2.2.1)), (q7, .inl (cI, 301, .inl S1.2.2.2.2.1)), (q8, .inl (cI, 301, .inl S1.2.2.2.2.2.1)), (q9, .inl (cI, 301, .inl S1.2.2.2.2.2.2.1)), (q10, .inl (cI, 300, .inl S1.2.2.2.2.2.2.2.1)), (q11, .inr (2, [.ref q12, .ref q13, .int S2.2.2.1, .int S2.2.2.2.1, .int S2.2.2.2.2])), (q12, .inl (cI, 301, .inl S2.1)), (q13, .inr (0, [.ref q14, .ref q15, .ref q16, .ref q17, .int S2.2.1.2.2.2.2])), (q14, .inl (cZ, 40, .inl S2.2.1.1)), (q15, .inl (cI, 40, .inl S2.2.1.2.1)), (q16, .inl (cI, 40, .inl S2.2.1.2.2.1)), (q17, .inl (cI, 40, .inl S2.2.1.2.2.2.1))] from rfl).trans rfl
theorem hC_B_object_104 (cI cZ cQ : ClassId) (q0 q1 q2 q3 q4 q5 q6 q7 q8 q9 q10 q11 q12 q13 q14 q15 q16 q17 : Nat) (S0 : (Nat → Option Nat)) (S1 : cL) (S2 : cP) : ([13, 14, 15, 16, 17] : List Nat).map (fun i => (wB cI cZ cQ q0 q1 q2 S0 ++ wL cI cZ q2 q3 q4 q5 q6 q7 q8 q9 q10 S1 ++ wP cI cZ q11 q12 q13 q14 q15 q16 q17 S2 : va_W)[i]?) = (wT cI cZ q13 q14 q15 q16 q17 S2.2.1 : va_W).map some := rfl
theorem hF_T_childCount (cI cZ cQ : ClassId) {h0 a1 a2 a3 a4 : Nat} (S0 R0 : cT) : (wT cI cZ h0 a1 a2 a3 a4 R0 : va_W).map Prod.fst = (wT cI cZ h0 a1 a2 a3 a4 S0 : va_W).map Prod.fst := rfl
theorem hU_B_object_104 (cI cZ cQ : ClassId) (q0 q1 q2 q3 q4 q5 q6 q7 q8 q9 q10 q11 q12 q13 q14 q15 q16 q17 : Nat) (S0 : (Nat → Option Nat)) (S1 : cL) (S2 : cP)  : vz_put (wB cI cZ cQ q0 q1 q2 S0 ++ wL cI cZ q2 q3 q4 q5 q6 q7 q8 q9 q10 S1 ++ wP cI cZ q11 q12 q13 q14 q15 q16 q17 S2 : va_W) [13, 14, 15, 16, 17] (wT cI cZ q13 q14 q15 q16 q17 S2.2.1 : va_W) = wB cI cZ cQ q0 q1 q2 S0 ++ wL cI cZ q2 q3 q4 q5 q6 q7 q8 q9 q10 S1 ++ wP cI cZ q11 q12 q13 q14 q15 q16 q17 S2 := (show vz_put ([(q0, .inr (3, [.ref q2, .ref q1])), (q1, .inl (cQ, 4, .inr (.inr (.inr (.inr S0))))), (q2, .inr (1, [.ref q3, .ref q4, .ref q5, .ref q6, .ref q7, .ref q8, .ref q9, .ref q10, .int S1.2.2.2.2.2.2.2.2.1, .int S1.2.2.2.2.2.2.2.2.2])), (q3, .inl (cI, 301, .inl S1.1)), (q4, .inl (cI, 301, .inl S1.2.1)), (q5, .inl (cI, 301, .inl S1.2.2.1)), (q6, .inl (cI, 301, .inl S1.2.2.2.1)), (q7, .inl (cI, 301, .inl S1.2.2.2.2.1)), (q8, .inl (cI, 301, .inl S1.2.2.2.2.2.1)), (q9, .inl (cI, 301, .inl S1.2.2.2.2.2.2.1)), (q10, .inl (cI, 300, .inl S1.2.2.2.2.2.2.2.1)), (q11, .inr (2, [.ref q12, .ref q13, .int S2.2.2.1, .int S2.2.2.2.1, .int S2.2.2.2.2])), (q12, .inl (cI, 301, .inl S2.1)), (q13, .inr (0, [.ref q14, .ref q15, .ref q16, .ref q17, .int S2.2.1.2.2.2.2])), (q14, .inl (cZ, 40, .inl S2.2.1.1)), (q15, .inl (cI, 40, .inl S2.2.1.2.1)), (q16, .inl (cI, 40, .inl S2.2.1.2.2.1)), (q17, .inl (cI, 40, .inl S2.2.1.2.2.2.1))] : va_W) [13, 14, 15, 16, 17] ([(q13, .inr (0, [.ref q14, .ref q15, .ref q16, .ref q17, .int S2.2.1.2.2.2.2])), (q14, .inl (cZ, 40, .inl S2.2.1.1)), (q15, .inl (cI, 40, .inl S2.2.1.2.1)), (q16, .inl (cI, 40, .inl S2.2.1.2.2.1)), (q17, .inl (cI, 40, .inl S2.2.1.2.2.2.1))] : va_W) = [(q0, .inr (3, [.ref q2, .ref q1])), (q1, .inl (cQ, 4, .inr (.inr (.inr (.inr S0))))), (q2, .inr (1, [.ref q3, .ref q4, .ref q5, .ref q6, .ref q7, .ref q8, .ref q9, .ref q10, .int S1.2.2.2.2.2.2.2.2.1, .int S1.2.2.2.2.2.2.2.2.2])), (q3, .inl (cI, 301, .inl S1.1)), (q4, .inl (cI, 301, .inl S1.2.1)), (q5, .inl (cI, 301, .inl S1.2.2.1)), (q6, .inl (cI, 301, .inl S1.2.2.2.1)), (q7, .inl (cI, 301, .inl S1.2.2.2.2.1)), (q8, .inl (cI, 301, .inl S1.2.2.2.2.2.1)), (q9, .inl (cI, 301, .inl S1.2.2.2.2.2.2.1)), (q10, .inl (cI, 300, .inl S1.2.2.2.2.2.2.2.1)), (q11, .inr (2, [.ref q12, .ref q13, .int S2.2.2.1, .int S2.2.2.2.1, .int S2.2.2.2.2])), (q12, .inl (cI, 301, .inl S2.1)), (q13, .inr (0, [.ref q14, .ref q15, .ref q16, .ref q17, .int S2.2.1.2.2.2.2])), (q14, .inl (cZ, 40, .inl S2.2.1.1)), (q15, .inl (cI, 40, .inl S2.2.1.2.1)), (q16, .inl (cI, 40, .inl S2.2.1.2.2.1)), (q17, .inl (cI, 40, .inl S2.2.1.2.2.2.1))] from rfl).trans rfl
theorem hC_B_object_111 (cI cZ cQ : ClassId) (q0 q1 q2 q3 q4 q5 q6 q7 q8 q9 q10 q11 q12 q13 q14 q15 q16 q17 : Nat) (S0 : (Nat → Option Nat)) (S1 : cL) (S2 : cP) : ([13, 14, 15, 16, 17] : List Nat).map (fun i => (wB cI cZ cQ q0 q1 q2 S0 ++ wL cI cZ q2 q3 q4 q5 q6 q7 q8 q9 q10 S1 ++ wP cI cZ q11 q12 q13 q14 q15 q16 q17 S2 : va_W)[i]?) = (wT cI cZ q13 q14 q15 q16 q17 S2.2.1 : va_W).map some := rfl
theorem hU_B_object_111 (cI cZ cQ : ClassId) (q0 q1 q2 q3 q4 q5 q6 q7 q8 q9 q10 q11 q12 q13 q14 q15 q16 q17 : Nat) (S0 : (Nat → Option Nat)) (S1 : cL) (S2 : cP)  : vz_put (wB cI cZ cQ q0 q1 q2 S0 ++ wL cI cZ q2 q3 q4 q5 q6 q7 q8 q9 q10 S1 ++ wP cI cZ q11 q12 q13 q14 q15 q16 q17 S2 : va_W) [13, 14, 15, 16, 17] (wT cI cZ q13 q14 q15 q16 q17 S2.2.1 : va_W) = wB cI cZ cQ q0 q1 q2 S0 ++ wL cI cZ q2 q3 q4 q5 q6 q7 q8 q9 q10 S1 ++ wP cI cZ q11 q12 q13 q14 q15 q16 q17 S2 := (show vz_put ([(q0, .inr (3, [.ref q2, .ref q1])), (q1, .inl (cQ, 4, .inr (.inr (.inr (.inr S0))))), (q2, .inr (1, [.ref q3, .ref q4, .ref q5, .ref q6, .ref q7, .ref q8, .ref q9, .ref q10, .int S1.2.2.2.2.2.2.2.2.1, .int S1.2.2.2.2.2.2.2.2.2])), (q3, .inl (cI, 301, .inl S1.1)), (q4, .inl (cI, 301, .inl S1.2.1)), (q5, .inl (cI, 301, .inl S1.2.2.1)), (q6, .inl (cI, 301, .inl S1.2.2.2.1)), (q7, .inl (cI, 301, .inl S1.2.2.2.2.1)), (q8, .inl (cI, 301, .inl S1.2.2.2.2.2.1)), (q9, .inl (cI, 301, .inl S1.2.2.2.2.2.2.1)), (q10, .inl (cI, 300, .inl S1.2.2.2.2.2.2.2.1)), (q11, .inr (2, [.ref q12, .ref q13, .int S2.2.2.1, .int S2.2.2.2.1, .int S2.2.2.2.2])), (q12, .inl (cI, 301, .inl S2.1)), (q13, .inr (0, [.ref q14, .ref q15, .ref q16, .ref q17, .int S2.2.1.2.2.2.2])), (q14, .inl (cZ, 40, .inl S2.2.1.1)), (q15, .inl (cI, 40, .inl S2.2.1.2.1)), (q16, .inl (cI, 40, .inl S2.2.1.2.2.1)), (q17, .inl (cI, 40, .inl S2.2.1.2.2.2.1))] : va_W) [13, 14, 15, 16, 17] ([(q13, .inr (0, [.ref q14, .ref q15, .ref q16, .ref q17, .int S2.2.1.2.2.2.2])), (q14, .inl (cZ, 40, .inl S2.2.1.1)), (q15, .inl (cI, 40, .inl S2.2.1.2.1)), (q16, .inl (cI, 40, .inl S2.2.1.2.2.1)), (q17, .inl (cI, 40, .inl S2.2.1.2.2.2.1))] : va_W) = [(q0, .inr (3, [.ref q2, .ref q1])), (q1, .inl (cQ, 4, .inr (.inr (.inr (.inr S0))))), (q2, .inr (1, [.ref q3, .ref q4, .ref q5, .ref q6, .ref q7, .ref q8, .ref q9, .ref q10, .int S1.2.2.2.2.2.2.2.2.1, .int S1.2.2.2.2.2.2.2.2.2])), (q3, .inl (cI, 301, .inl S1.1)), (q4, .inl (cI, 301, .inl S1.2.1)), (q5, .inl (cI, 301, .inl S1.2.2.1)), (q6, .inl (cI, 301, .inl S1.2.2.2.1)), (q7, .inl (cI, 301, .inl S1.2.2.2.2.1)), (q8, .inl (cI, 301, .inl S1.2.2.2.2.2.1)), (q9, .inl (cI, 301, .inl S1.2.2.2.2.2.2.1)), (q10, .inl (cI, 300, .inl S1.2.2.2.2.2.2.2.1)), (q11, .inr (2, [.ref q12, .ref q13, .int S2.2.2.1, .int S2.2.2.2.1, .int S2.2.2.2.2])), (q12, .inl (cI, 301, .inl S2.1)), (q13, .inr (0, [.ref q14, .ref q15, .ref q16, .ref q17, .int S2.2.1.2.2.2.2])), (q14, .inl (cZ, 40, .inl S2.2.1.1)), (q15, .inl (cI, 40, .inl S2.2.1.2.1)), (q16, .inl (cI, 40, .inl S2.2.1.2.2.1)), (q17, .inl (cI, 40, .inl S2.2.1.2.2.2.1))] from rfl).trans rfl
theorem hC_B_object_126 (cI cZ cQ : ClassId) (q0 q1 q2 q3 q4 q5 q6 q7 q8 q9 q10 q11 q12 q13 q14 q15 q16 q17 : Nat) (S0 : (Nat → Option Nat)) (S1 : cL) (S2 : cP) : ([13, 14, 15, 16, 17] : List Nat).map (fun i => (wB cI cZ cQ q0 q1 q2 S0 ++ wL cI cZ q2 q3 q4 q5 q6 q7 q8 q9 q10 S1 ++ wP cI cZ q11 q12 q13 q14 q15 q16 q17 S2 : va_W)[i]?) = (wT cI cZ q13 q14 q15 q16 q17 S2.2.1 : va_W).map some := rfl
theorem hU_B_object_126 (cI cZ cQ : ClassId) (q0 q1 q2 q3 q4 q5 q6 q7 q8 q9 q10 q11 q12 q13 q14 q15 q16 q17 : Nat) (S0 : (Nat → Option Nat)) (S1 : cL) (S2 : cP)  : vz_put (wB cI cZ cQ q0 q1 q2 S0 ++ wL cI cZ q2 q3 q4 q5 q6 q7 q8 q9 q10 S1 ++ wP cI cZ q11 q12 q13 q14 q15 q16 q17 S2 : va_W) [13, 14, 15, 16, 17] (wT cI cZ q13 q14 q15 q16 q17 S2.2.1 : va_W) = wB cI cZ cQ q0 q1 q2 S0 ++ wL cI cZ q2 q3 q4 q5 q6 q7 q8 q9 q10 S1 ++ wP cI cZ q11 q12 q13 q14 q15 q16 q17 S2 := (show vz_put ([(q0, .inr (3, [.ref q2, .ref q1])), (q1, .inl (cQ, 4, .inr (.inr (.inr (.inr S0))))), (q2, .inr (1, [.ref q3, .ref q4, .ref q5, .ref q6, .ref q7, .ref q8, .ref q9, .ref q10, .int S1.2.2.2.2.2.2.2.2.1, .int S1.2.2.2.2.2.2.2.2.2])), (q3, .inl (cI, 301, .inl S1.1)), (q4, .inl (cI, 301, .inl S1.2.1)), (q5, .inl (cI, 301, .inl S1.2.2.1)), (q6, .inl (cI, 301, .inl S1.2.2.2.1)), (q7, .inl (cI, 301, .inl S1.2.2.2.2.1)), (q8, .inl (cI, 301, .inl S1.2.2.2.2.2.1)), (q9, .inl (cI, 301, .inl S1.2.2.2.2.2.2.1)), (q10, .inl (cI, 300, .inl S1.2.2.2.2.2.2.2.1)), (q11, .inr (2, [.ref q12, .ref q13, .int S2.2.2.1, .int S2.2.2.2.1, .int S2.2.2.2.2])), (q12, .inl (cI, 301, .inl S2.1)), (q13, .inr (0, [.ref q14, .ref q15, .ref q16, .ref q17, .int S2.2.1.2.2.2.2])), (q14, .inl (cZ, 40, .inl S2.2.1.1)), (q15, .inl (cI, 40, .inl S2.2.1.2.1)), (q16, .inl (cI, 40, .inl S2.2.1.2.2.1)), (q17, .inl (cI, 40, .inl S2.2.1.2.2.2.1))] : va_W) [13, 14, 15, 16, 17] ([(q13, .inr (0, [.ref q14, .ref q15, .ref q16, .ref q17, .int S2.2.1.2.2.2.2])), (q14, .inl (cZ, 40, .inl S2.2.1.1)), (q15, .inl (cI, 40, .inl S2.2.1.2.1)), (q16, .inl (cI, 40, .inl S2.2.1.2.2.1)), (q17, .inl (cI, 40, .inl S2.2.1.2.2.2.1))] : va_W) = [(q0, .inr (3, [.ref q2, .ref q1])), (q1, .inl (cQ, 4, .inr (.inr (.inr (.inr S0))))), (q2, .inr (1, [.ref q3, .ref q4, .ref q5, .ref q6, .ref q7, .ref q8, .ref q9, .ref q10, .int S1.2.2.2.2.2.2.2.2.1, .int S1.2.2.2.2.2.2.2.2.2])), (q3, .inl (cI, 301, .inl S1.1)), (q4, .inl (cI, 301, .inl S1.2.1)), (q5, .inl (cI, 301, .inl S1.2.2.1)), (q6, .inl (cI, 301, .inl S1.2.2.2.1)), (q7, .inl (cI, 301, .inl S1.2.2.2.2.1)), (q8, .inl (cI, 301, .inl S1.2.2.2.2.2.1)), (q9, .inl (cI, 301, .inl S1.2.2.2.2.2.2.1)), (q10, .inl (cI, 300, .inl S1.2.2.2.2.2.2.2.1)), (q11, .inr (2, [.ref q12, .ref q13, .int S2.2.2.1, .int S2.2.2.2.1, .int S2.2.2.2.2])), (q12, .inl (cI, 301, .inl S2.1)), (q13, .inr (0, [.ref q14, .ref q15, .ref q16, .ref q17, .int S2.2.1.2.2.2.2])), (q14, .inl (cZ, 40, .inl S2.2.1.1)), (q15, .inl (cI, 40, .inl S2.2.1.2.1)), (q16, .inl (cI, 40, .inl S2.2.1.2.2.1)), (q17, .inl (cI, 40, .inl S2.2.1.2.2.2.1))] from rfl).trans rfl
def m_B_object (L : cL) (P : cP) (x1 : Int32) (x2 : Int32) (x3 : Int32) : Int32 := (if (m_B_isNode x1) = 0 then -1 else (if (m_B_isObject L x2) = 0 then -1 else (if (P.2.1.1 x2.toNatClampNeg) = 0 then -1 else (if x3 = 0 then P.2.1.2.1 x2.toNatClampNeg else (if x3 = 1 then (m_T_stepsUp P.2.1 x2 (m_T_topOf P.2.1 x2)) else (if x3 = 2 then (m_T_childCount P.2.1 x2) else (if x3 = 3 then (if (m_T_topOf P.2.1 x2) = 0 then 0 else 1) else (if x3 = 4 then (m_T_placeOf P.2.1 x2) else (if x3 = 5 then P.2.1.2.2.1 x2.toNatClampNeg else -1)))))))))
set_option maxHeartbeats 1000000 in
set_option maxRecDepth 100000 in
theorem c_B_object (l : Launch) (dC : Nat → ClassId) (dI : Nat → Nat → Nat) (cI cZ cQ : ClassId) (b0 : Nat) (b1 : Nat) (F : Nat → Option Nat) (u0 : Nat) (u1 : Nat) (u2 : Nat) (u3 : Nat) (u4 : Nat) (u5 : Nat) (u6 : Nat) (u7 : Nat) (u8 : Nat) (L : cL) (p0 : Nat) (p1 : Nat) (h0 : Nat) (a1 : Nat) (a2 : Nat) (a3 : Nat) (a4 : Nat) (P : cP) (x1 : Int32) (x2 : Int32) (x3 : Int32) (hF : 0 ≤ x1.toInt → x1.toInt < 4 → F x1.toNatClampNeg = some p0) (hL : okL L) (hok : okT P.2.1) : vz_C l (dC, dI) classes [(cI, .int), (cZ, .boolean), (cQ, .object "BinTrees$Person")] y_B_object (Cond.code y_B_object b_B_object 5 (some .int) :: vz_tbl) ({ frames := 1, cells := 0, slots := 0, locals := 24 }) [.ref b0, .int x1, .int x2, .int x3] (wB cI cZ cQ b0 b1 u0 F ++ wL cI cZ u0 u1 u2 u3 u4 u5 u6 u7 u8 L ++ wP cI cZ p0 p1 h0 a1 a2 a3 a4 P) (some (.int (m_B_object L P x1 x2 x3))) (wB cI cZ cQ b0 b1 u0 F ++ wL cI cZ u0 u1 u2 u3 u4 u5 u6 u7 u8 L ++ wP cI cZ p0 p1 h0 a1 a2 a3 a4 P) := by
  generalize hres : (m_B_object L P x1 x2 x3) = RES
  refine vz_C.of (by decide) (Nat.le_of_ble_eq_true rfl) ?_
  intro p e s m below meth c ls E hl hK hP hD hS
  obtain ⟨hx, hb, hr, hml, hown, hT, hlocks⟩ := E
  obtain ⟨Q, hQ⟩ : ∃ Q, Q = MQ below (vz_Q (dC, dI) classes (wB cI cZ cQ b0 b1 u0 F ++ wL cI cZ u0 u1 u2 u3 u4 u5 u6 u7 u8 L ++ wP cI cZ p0 p1 h0 a1 a2 a3 a4 P) (some (.int RES)) (wB cI cZ cQ b0 b1 u0 F ++ wL cI cZ u0 u1 u2 u3 u4 u5 u6 u7 u8 L ++ wP cI cZ p0 p1 h0 a1 a2 a3 a4 P)) ([.ref b0, .int x1, .int x2, .int x3] : List Value).toArray s 0 0 (vz_A (wB cI cZ cQ b0 b1 u0 F ++ wL cI cZ u0 u1 u2 u3 u4 u5 u6 u7 u8 L ++ wP cI cZ p0 p1 h0 a1 a2 a3 a4 P)) := ⟨_, rfl⟩
  rw [← hQ]
  have hl : lv_has ls 5 [(0, .ref b0), (1, .int x1), (2, .int x2), (3, .int x3)] := hl
  have T0 := ti_0
  have T1 := ti_1
  have Tm := ti_m1
  have T8 := ti_8
  have T39 := ti_39
  have T40 := ti_40
  have T4 := ti_4
  have T300 := ti_300
  have hS0 := hS
  refine lv_iload_n hx hb d_B_object_0 rfl (lv_at hl 1 rfl) ?_
  have hc := c_B_isNode l dC dI cI cZ cQ x1 
  generalize hg_1 : (m_B_isNode x1) = g_1 at hc
  refine vz_callS (As := [.int x1]) (rest := []) ⟨hx, hb, hml, hown, hT⟩ hc (vz_goodS kw_143 kw_144 kw_1 kw_145) hd_B_isNode ⟨⟨rfl, rfl⟩, Nat.le_of_ble_eq_true rfl, Nat.le_of_ble_eq_true rfl⟩ hK hP hD hS [] rfl (hC_B_object_1 cI cZ cQ b0 b1 u0 u1 u2 u3 u4 u5 u6 u7 u8 p0 p1 h0 a1 a2 a3 a4 F L P) (hF_B_isNode cI cZ cQ ) rfl hl.1 rfl (Nat.le_of_ble_eq_true rfl) ⟨Nat.zero_le _, Nat.zero_le _⟩ d_B_object_1 (fun H locs hP hD hS => ?_)
  have hP : va_P (dC, dI) classes (wB cI cZ cQ b0 b1 u0 F ++ wL cI cZ u0 u1 u2 u3 u4 u5 u6 u7 u8 L ++ wP cI cZ p0 p1 h0 a1 a2 a3 a4 P) H := vz_reP (hU_B_object_1 cI cZ cQ b0 b1 u0 u1 u2 u3 u4 u5 u6 u7 u8 p0 p1 h0 a1 a2 a3 a4 F L P ) hP
  have hD : va_D (vz_A (wB cI cZ cQ b0 b1 u0 F ++ wL cI cZ u0 u1 u2 u3 u4 u5 u6 u7 u8 L ++ wP cI cZ p0 p1 h0 a1 a2 a3 a4 P)) (wB cI cZ cQ b0 b1 u0 F ++ wL cI cZ u0 u1 u2 u3 u4 u5 u6 u7 u8 L ++ wP cI cZ p0 p1 h0 a1 a2 a3 a4 P) := vz_reD (hU_B_object_1 cI cZ cQ b0 b1 u0 u1 u2 u3 u4 u5 u6 u7 u8 p0 p1 h0 a1 a2 a3 a4 F L P ) hD
  refine W.eq (g2 := F0 m 4 ls [.int g_1]) rfl ?_
  refine lv_if_eq (tgt := 15) hx hb d_B_object_4 (by decide) (fun c_4 => ?_) (fun c_4 => ?_)
  · have z_4 : g_1.toInt = (0 : Int32).toInt := congrArg Int32.toInt c_4
    refine lv_iconst (v := -1) hx hb d_B_object_15 (by decide) ?_
    rw [m_B_object] at hres
    try rw [hg_1] at hres
    rw [if_pos c_4] at hres
    subst hres
    subst hQ
    exact vz_iret hx hb hr hlocks d_B_object_16 hS rfl hP
  · have z_4 : ¬ g_1.toInt = (0 : Int32).toInt := mt Int32.toInt_inj.mp c_4
    refine lv_aload_n hx hb d_B_object_7 rfl (lv_at hl 0 rfl) ?_
    refine lv_iload_n hx hb d_B_object_8 rfl (lv_at hl 2 rfl) ?_
    have hc := c_B_isObject l dC dI cI cZ cQ b0 b1 F u0 u1 u2 u3 u4 u5 u6 u7 u8 L x2 
    generalize hg_9 : (m_B_isObject L x2) = g_9 at hc
    refine vz_callV (As := [.int x2]) (rest := []) ⟨hx, hb, hml, hown, hT⟩ hc (vz_goodV kw_231 kw_233 ks_10 kw_1 kw_234) ⟨rfl, hd_B_isObject⟩ ⟨⟨rfl, rfl⟩, Nat.le_of_ble_eq_true rfl, Nat.le_of_ble_eq_true rfl⟩ hK hP hD hS [0, 1, 2, 3, 4, 5, 6, 7, 8, 9, 10] rfl (hC_B_object_9 cI cZ cQ b0 b1 u0 u1 u2 u3 u4 u5 u6 u7 u8 p0 p1 h0 a1 a2 a3 a4 F L P) (hF_B_isObject cI cZ cQ _ _ _ _) 0 3 rfl rfl rfl rfl hl.1 rfl (Nat.le_of_ble_eq_true rfl) ⟨Nat.zero_le _, Nat.zero_le _⟩ d_B_object_9 (fun H locs hP hD hS => ?_)
    have hP : va_P (dC, dI) classes (wB cI cZ cQ b0 b1 u0 F ++ wL cI cZ u0 u1 u2 u3 u4 u5 u6 u7 u8 L ++ wP cI cZ p0 p1 h0 a1 a2 a3 a4 P) H := vz_reP (hU_B_object_9 cI cZ cQ b0 b1 u0 u1 u2 u3 u4 u5 u6 u7 u8 p0 p1 h0 a1 a2 a3 a4 F L P ) hP
    have hD : va_D (vz_A (wB cI cZ cQ b0 b1 u0 F ++ wL cI cZ u0 u1 u2 u3 u4 u5 u6 u7 u8 L ++ wP cI cZ p0 p1 h0 a1 a2 a3 a4 P)) (wB cI cZ cQ b0 b1 u0 F ++ wL cI cZ u0 u1 u2 u3 u4 u5 u6 u7 u8 L ++ wP cI cZ p0 p1 h0 a1 a2 a3 a4 P) := vz_reD (hU_B_object_9 cI cZ cQ b0 b1 u0 u1 u2 u3 u4 u5 u6 u7 u8 p0 p1 h0 a1 a2 a3 a4 F L P ) hD
    refine W.eq (g2 := F0 m 12 ls [.int g_9]) rfl ?_
    refine lv_if_ne (tgt := 17) hx hb d_B_object_12 (by decide) (fun c_12 => ?_) (fun c_12 => ?_)
    · have z_12 : ¬ g_9.toInt = (0 : Int32).toInt := mt Int32.toInt_inj.mp c_12
      refine lv_aload_n hx hb d_B_object_17 rfl (lv_at hl 0 rfl) ?_
      refine va_get (D := (dC, dI)) (ci := 3) (v := .ref b1) (C := R_B) (T := F_B) (N := 2) hx hb hT i_B hown hK hP 0 rfl rfl 1 (by decide) (hT _ kw_129) (fun _ h9 => h9) rfl d_B_object_18 ?_
      refine lv_iload_n hx hb d_B_object_21 rfl (lv_at hl 1 rfl) ?_
      refine va_aldq hx hb hK hP 1 2 rfl rfl (by have hn := isn_t (x0 := x1) (by rw [hg_1]; assumption); exact ti_vp (by omega) (by omega)) d_B_object_22 ?_
      rw [show va_rf (F x1.toNatClampNeg) = .ref p0 from by have hn := isn_t (x0 := x1) (by rw [hg_1]; assumption); rw [hF hn.1 hn.2]; rfl]
      refine va_get (D := (dC, dI)) (ci := 2) (v := .ref h0) (C := R_P) (T := F_P) (N := 5) hx hb hT i_P hown hK hP 11 rfl rfl 1 (by decide) (hT _ kw_110) (fun _ h9 => h9) rfl d_B_object_23 ?_
      refine lv_astore (lv' := [(4, .ref h0), (0, .ref b0), (1, .int x1), (2, .int x2), (3, .int x3)]) hx hb d_B_object_26 hl (by decide) rfl (fun ls hl => ?_)
      refine lv_aload hx hb d_B_object_28 (lv_at hl 0 rfl) ?_
      refine va_get (D := (dC, dI)) (ci := 0) (v := .ref a1) (C := R_T) (T := F_T) (N := 5) hx hb hT i_T hown hK hP 13 rfl rfl 0 (by decide) (hT _ kw_87) (fun _ h9 => h9) rfl d_B_object_30 ?_
      refine lv_iload_n hx hb d_B_object_33 rfl (lv_at hl 3 rfl) ?_
      refine va_zald hx hb hK hP 14 1 rfl rfl (by have ho := iso_t (L := L) (x1 := x2) (by rw [hg_9]; assumption); have hl1 := hL.2.2; exact ti_vp (by omega) (by omega)) d_B_object_34 ?_
      refine lv_if_ne (tgt := 40) hx hb d_B_object_35 (by decide) (fun c_35 => ?_) (fun c_35 => ?_)
      · have z_35 : ¬ (P.2.1.1 x2.toNatClampNeg).toInt = (0 : Int32).toInt := mt Int32.toInt_inj.mp c_35
        refine lv_iload_n hx hb d_B_object_40 rfl (lv_at hl 4 rfl) ?_
        by_cases c_41_0 : x3 = 0
        · refine lv_tableIn (off := 39) (tgt := 80) hx hb d_B_object_41 (by rw [c_41_0]; decide) (by rw [c_41_0]; decide) (by rw [c_41_0]; decide) (by decide) ?_
          refine lv_aload hx hb d_B_object_80 (lv_at hl 0 rfl) ?_
          refine va_get (D := (dC, dI)) (ci := 0) (v := .ref a2) (C := R_T) (T := F_T) (N := 5) hx hb hT i_T hown hK hP 13 rfl rfl 1 (by decide) (hT _ kw_89) (fun _ h9 => h9) rfl d_B_object_82 ?_
          refine lv_iload_n hx hb d_B_object_85 rfl (lv_at hl 3 rfl) ?_
          refine va_iald hx hb hK hP 15 0 rfl rfl (by have ho := iso_t (L := L) (x1 := x2) (by rw [hg_9]; assumption); have hl1 := hL.2.2; exact ti_vp (by omega) (by omega)) d_B_object_86 ?_
          rw [m_B_object] at hres
          try rw [hg_1] at hres
          rw [if_neg c_4] at hres
          try rw [hg_9] at hres
          rw [if_neg c_12, if_neg c_35, if_pos c_41_0] at hres
          subst hres
          subst hQ
          exact vz_iret hx hb hr hlocks d_B_object_87 hS rfl hP
        · by_cases c_41_1 : x3 = 1
          · refine lv_tableIn (off := 47) (tgt := 88) hx hb d_B_object_41 (by rw [c_41_1]; decide) (by rw [c_41_1]; decide) (by rw [c_41_1]; decide) (by decide) ?_
            refine lv_aload hx hb d_B_object_88 (lv_at hl 0 rfl) ?_
            refine lv_iload_n hx hb d_B_object_90 rfl (lv_at hl 3 rfl) ?_
            refine lv_aload hx hb d_B_object_91 (lv_at hl 0 rfl) ?_
            refine lv_iload_n hx hb d_B_object_93 rfl (lv_at hl 3 rfl) ?_
            have hc := c_T_topOf l dC dI cI cZ cQ h0 a1 a2 a3 a4 P.2.1 x2 (hok.1) (by have ho := iso_t (L := L) (x1 := x2) (by rw [hg_9]; assumption); have hl1 := hL.2.2; omega)
            generalize hg_94 : (m_T_topOf P.2.1 x2) = g_94 at hc
            refine vz_callV (As := [.int x2]) (rest := [.int x2, .ref h0]) ⟨hx, hb, hml, hown, hT⟩ hc (vz_goodV kw_268 kw_269 kw_270 kw_4 kw_271) ⟨rfl, hd_T_topOf⟩ ⟨⟨rfl, rfl⟩, Nat.le_of_ble_eq_true rfl, Nat.le_of_ble_eq_true rfl⟩ hK hP hD hS [13, 14, 15, 16, 17] rfl (hC_B_object_94 cI cZ cQ b0 b1 u0 u1 u2 u3 u4 u5 u6 u7 u8 p0 p1 h0 a1 a2 a3 a4 F L P) (hF_T_topOf cI cZ cQ _ _) 0 0 rfl rfl rfl rfl hl.1 rfl (Nat.le_of_ble_eq_true rfl) ⟨Nat.zero_le _, Nat.zero_le _⟩ d_B_object_94 (fun H locs hP hD hS => ?_)
            have hP : va_P (dC, dI) classes (wB cI cZ cQ b0 b1 u0 F ++ wL cI cZ u0 u1 u2 u3 u4 u5 u6 u7 u8 L ++ wP cI cZ p0 p1 h0 a1 a2 a3 a4 P) H := vz_reP (hU_B_object_94 cI cZ cQ b0 b1 u0 u1 u2 u3 u4 u5 u6 u7 u8 p0 p1 h0 a1 a2 a3 a4 F L P ) hP
            have hD : va_D (vz_A (wB cI cZ cQ b0 b1 u0 F ++ wL cI cZ u0 u1 u2 u3 u4 u5 u6 u7 u8 L ++ wP cI cZ p0 p1 h0 a1 a2 a3 a4 P)) (wB cI cZ cQ b0 b1 u0 F ++ wL cI cZ u0 u1 u2 u3 u4 u5 u6 u7 u8 L ++ wP cI cZ p0 p1 h0 a1 a2 a3 a4 P) := vz_reD (hU_B_object_94 cI cZ cQ b0 b1 u0 u1 u2 u3 u4 u5 u6 u7 u8 p0 p1 h0 a1 a2 a3 a4 F L P ) hD
            refine W.eq (g2 := F0 m 97 ls [.int g_94, .int x2, .ref h0]) rfl ?_
            have hc := c_T_stepsUp l dC dI cI cZ cQ h0 a1 a2 a3 a4 P.2.1 x2 g_94 (hok.1) (by have ho := iso_t (L := L) (x1 := x2) (by rw [hg_9]; assumption); have hl1 := hL.2.2; omega)
            generalize hg_97 : (m_T_stepsUp P.2.1 x2 g_94) = g_97 at hc
            refine vz_callV (As := [.int x2, .int g_94]) (rest := []) ⟨hx, hb, hml, hown, hT⟩ hc (vz_goodV kw_272 kw_198 kw_199 kw_4 kw_200) ⟨rfl, hd_T_stepsUp⟩ ⟨⟨rfl, rfl⟩, Nat.le_of_ble_eq_true rfl, Nat.le_of_ble_eq_true rfl⟩ hK hP hD hS [13, 14, 15, 16, 17] rfl (hC_B_object_97 cI cZ cQ b0 b1 u0 u1 u2 u3 u4 u5 u6 u7 u8 p0 p1 h0 a1 a2 a3 a4 F L P) (hF_T_stepsUp cI cZ cQ _ _) 0 0 rfl rfl rfl rfl hl.1 rfl (Nat.le_of_ble_eq_true rfl) ⟨Nat.zero_le _, Nat.zero_le _⟩ d_B_object_97 (fun H locs hP hD hS => ?_)
            have hP : va_P (dC, dI) classes (wB cI cZ cQ b0 b1 u0 F ++ wL cI cZ u0 u1 u2 u3 u4 u5 u6 u7 u8 L ++ wP cI cZ p0 p1 h0 a1 a2 a3 a4 P) H := vz_reP (hU_B_object_97 cI cZ cQ b0 b1 u0 u1 u2 u3 u4 u5 u6 u7 u8 p0 p1 h0 a1 a2 a3 a4 F L P ) hP
            have hD : va_D (vz_A (wB cI cZ cQ b0 b1 u0 F ++ wL cI cZ u0 u1 u2 u3 u4 u5 u6 u7 u8 L ++ wP cI cZ p0 p1 h0 a1 a2 a3 a4 P)) (wB cI cZ cQ b0 b1 u0 F ++ wL cI cZ u0 u1 u2 u3 u4 u5 u6 u7 u8 L ++ wP cI cZ p0 p1 h0 a1 a2 a3 a4 P) := vz_reD (hU_B_object_97 cI cZ cQ b0 b1 u0 u1 u2 u3 u4 u5 u6 u7 u8 p0 p1 h0 a1 a2 a3 a4 F L P ) hD
            refine W.eq (g2 := F0 m 100 ls [.int g_97]) rfl ?_
            rw [m_B_object] at hres
            try rw [hg_1] at hres
            rw [if_neg c_4] at hres
            try rw [hg_9] at hres
            rw [if_neg c_12, if_neg c_35, if_neg c_41_0, if_pos c_41_1] at hres
            try rw [hg_94] at hres
            try rw [hg_97] at hres
            subst hres
            subst hQ
            exact vz_iret hx hb hr hlocks d_B_object_100 hS rfl hP
          · by_cases c_41_2 : x3 = 2
            · refine lv_tableIn (off := 60) (tgt := 101) hx hb d_B_object_41 (by rw [c_41_2]; decide) (by rw [c_41_2]; decide) (by rw [c_41_2]; decide) (by decide) ?_
              refine lv_aload hx hb d_B_object_101 (lv_at hl 0 rfl) ?_
              refine lv_iload_n hx hb d_B_object_103 rfl (lv_at hl 3 rfl) ?_
              have hc := c_T_childCount l dC dI cI cZ cQ h0 a1 a2 a3 a4 P.2.1 x2 (ok_le hok) (hok.2.1)
              generalize hg_104 : (m_T_childCount P.2.1 x2) = g_104 at hc
              refine vz_callV (As := [.int x2]) (rest := []) ⟨hx, hb, hml, hown, hT⟩ hc (vz_goodV kw_273 kw_274 kw_275 kw_4 kw_276) ⟨rfl, hd_T_childCount⟩ ⟨⟨rfl, rfl⟩, Nat.le_of_ble_eq_true rfl, Nat.le_of_ble_eq_true rfl⟩ hK hP hD hS [13, 14, 15, 16, 17] rfl (hC_B_object_104 cI cZ cQ b0 b1 u0 u1 u2 u3 u4 u5 u6 u7 u8 p0 p1 h0 a1 a2 a3 a4 F L P) (hF_T_childCount cI cZ cQ _ _) 0 0 rfl rfl rfl rfl hl.1 rfl (Nat.le_of_ble_eq_true rfl) ⟨Nat.zero_le _, Nat.zero_le _⟩ d_B_object_104 (fun H locs hP hD hS => ?_)
              have hP : va_P (dC, dI) classes (wB cI cZ cQ b0 b1 u0 F ++ wL cI cZ u0 u1 u2 u3 u4 u5 u6 u7 u8 L ++ wP cI cZ p0 p1 h0 a1 a2 a3 a4 P) H := vz_reP (hU_B_object_104 cI cZ cQ b0 b1 u0 u1 u2 u3 u4 u5 u6 u7 u8 p0 p1 h0 a1 a2 a3 a4 F L P ) hP
              have hD : va_D (vz_A (wB cI cZ cQ b0 b1 u0 F ++ wL cI cZ u0 u1 u2 u3 u4 u5 u6 u7 u8 L ++ wP cI cZ p0 p1 h0 a1 a2 a3 a4 P)) (wB cI cZ cQ b0 b1 u0 F ++ wL cI cZ u0 u1 u2 u3 u4 u5 u6 u7 u8 L ++ wP cI cZ p0 p1 h0 a1 a2 a3 a4 P) := vz_reD (hU_B_object_104 cI cZ cQ b0 b1 u0 u1 u2 u3 u4 u5 u6 u7 u8 p0 p1 h0 a1 a2 a3 a4 F L P ) hD
              refine W.eq (g2 := F0 m 107 ls [.int g_104]) rfl ?_
              rw [m_B_object] at hres
              try rw [hg_1] at hres
              rw [if_neg c_4] at hres
              try rw [hg_9] at hres
              rw [if_neg c_12, if_neg c_35, if_neg c_41_0, if_neg c_41_1, if_pos c_41_2] at hres
              try rw [hg_104] at hres
              subst hres
              subst hQ
              exact vz_iret hx hb hr hlocks d_B_object_107 hS rfl hP
            · by_cases c_41_3 : x3 = 3
              · refine lv_tableIn (off := 67) (tgt := 108) hx hb d_B_object_41 (by rw [c_41_3]; decide) (by rw [c_41_3]; decide) (by rw [c_41_3]; decide) (by decide) ?_
                refine lv_aload hx hb d_B_object_108 (lv_at hl 0 rfl) ?_
                refine lv_iload_n hx hb d_B_object_110 rfl (lv_at hl 3 rfl) ?_
                have hc := c_T_topOf l dC dI cI cZ cQ h0 a1 a2 a3 a4 P.2.1 x2 (hok.1) (by have ho := iso_t (L := L) (x1 := x2) (by rw [hg_9]; assumption); have hl1 := hL.2.2; omega)
                generalize hg_111 : (m_T_topOf P.2.1 x2) = g_111 at hc
                refine vz_callV (As := [.int x2]) (rest := []) ⟨hx, hb, hml, hown, hT⟩ hc (vz_goodV kw_268 kw_269 kw_270 kw_4 kw_271) ⟨rfl, hd_T_topOf⟩ ⟨⟨rfl, rfl⟩, Nat.le_of_ble_eq_true rfl, Nat.le_of_ble_eq_true rfl⟩ hK hP hD hS [13, 14, 15, 16, 17] rfl (hC_B_object_111 cI cZ cQ b0 b1 u0 u1 u2 u3 u4 u5 u6 u7 u8 p0 p1 h0 a1 a2 a3 a4 F L P) (hF_T_topOf cI cZ cQ _ _) 0 0 rfl rfl rfl rfl hl.1 rfl (Nat.le_of_ble_eq_true rfl) ⟨Nat.zero_le _, Nat.zero_le _⟩ d_B_object_111 (fun H locs hP hD hS => ?_)
                have hP : va_P (dC, dI) classes (wB cI cZ cQ b0 b1 u0 F ++ wL cI cZ u0 u1 u2 u3 u4 u5 u6 u7 u8 L ++ wP cI cZ p0 p1 h0 a1 a2 a3 a4 P) H := vz_reP (hU_B_object_111 cI cZ cQ b0 b1 u0 u1 u2 u3 u4 u5 u6 u7 u8 p0 p1 h0 a1 a2 a3 a4 F L P ) hP
                have hD : va_D (vz_A (wB cI cZ cQ b0 b1 u0 F ++ wL cI cZ u0 u1 u2 u3 u4 u5 u6 u7 u8 L ++ wP cI cZ p0 p1 h0 a1 a2 a3 a4 P)) (wB cI cZ cQ b0 b1 u0 F ++ wL cI cZ u0 u1 u2 u3 u4 u5 u6 u7 u8 L ++ wP cI cZ p0 p1 h0 a1 a2 a3 a4 P) := vz_reD (hU_B_object_111 cI cZ cQ b0 b1 u0 u1 u2 u3 u4 u5 u6 u7 u8 p0 p1 h0 a1 a2 a3 a4 F L P ) hD
                refine W.eq (g2 := F0 m 114 ls [.int g_111]) rfl ?_
                refine lv_if_ne (tgt := 121) hx hb d_B_object_114 (by decide) (fun c_114 => ?_) (fun c_114 => ?_)
                · have z_114 : ¬ g_111.toInt = (0 : Int32).toInt := mt Int32.toInt_inj.mp c_114
                  refine lv_iconst (v := 1) hx hb d_B_object_121 (by decide) ?_
                  rw [m_B_object] at hres
                  try rw [hg_1] at hres
                  rw [if_neg c_4] at hres
                  try rw [hg_9] at hres
                  rw [if_neg c_12, if_neg c_35, if_neg c_41_0, if_neg c_41_1, if_neg c_41_2, if_pos c_41_3] at hres
                  try rw [hg_111] at hres
                  rw [if_neg c_114] at hres
                  subst hres
                  subst hQ
                  exact vz_iret hx hb hr hlocks d_B_object_122 hS rfl hP
                · have z_114 : g_111.toInt = (0 : Int32).toInt := congrArg Int32.toInt c_114
                  refine lv_iconst (v := 0) hx hb d_B_object_117 (by decide) ?_
                  refine lv_goto (tgt := 122) hx hb d_B_object_118 (by decide) ?_
                  rw [m_B_object] at hres
                  try rw [hg_1] at hres
                  rw [if_neg c_4] at hres
                  try rw [hg_9] at hres
                  rw [if_neg c_12, if_neg c_35, if_neg c_41_0, if_neg c_41_1, if_neg c_41_2, if_pos c_41_3] at hres
                  try rw [hg_111] at hres
                  rw [if_pos c_114] at hres
                  subst hres
                  subst hQ
                  exact vz_iret hx hb hr hlocks d_B_object_122 hS rfl hP
              · by_cases c_41_4 : x3 = 4
                · refine lv_tableIn (off := 82) (tgt := 123) hx hb d_B_object_41 (by rw [c_41_4]; decide) (by rw [c_41_4]; decide) (by rw [c_41_4]; decide) (by decide) ?_
                  refine lv_aload hx hb d_B_object_123 (lv_at hl 0 rfl) ?_
                  refine lv_iload_n hx hb d_B_object_125 rfl (lv_at hl 3 rfl) ?_
                  have hc := c_T_placeOf l dC dI cI cZ cQ h0 a1 a2 a3 a4 P.2.1 x2 (ok_le hok) (hok.2.1) (by have ho := iso_t (L := L) (x1 := x2) (by rw [hg_9]; assumption); have hl1 := hL.2.2; omega)
                  generalize hg_126 : (m_T_placeOf P.2.1 x2) = g_126 at hc
                  refine vz_callV (As := [.int x2]) (rest := []) ⟨hx, hb, hml, hown, hT⟩ hc (vz_goodV kw_277 kw_278 kw_279 kw_4 kw_280) ⟨rfl, hd_T_placeOf⟩ ⟨⟨rfl, rfl⟩, Nat.le_of_ble_eq_true rfl, Nat.le_of_ble_eq_true rfl⟩ hK hP hD hS [13, 14, 15, 16, 17] rfl (hC_B_object_126 cI cZ cQ b0 b1 u0 u1 u2 u3 u4 u5 u6 u7 u8 p0 p1 h0 a1 a2 a3 a4 F L P) (hF_T_placeOf cI cZ cQ _ _) 0 0 rfl rfl rfl rfl hl.1 rfl (Nat.le_of_ble_eq_true rfl) ⟨Nat.zero_le _, Nat.zero_le _⟩ d_B_object_126 (fun H locs hP hD hS => ?_)
                  have hP : va_P (dC, dI) classes (wB cI cZ cQ b0 b1 u0 F ++ wL cI cZ u0 u1 u2 u3 u4 u5 u6 u7 u8 L ++ wP cI cZ p0 p1 h0 a1 a2 a3 a4 P) H := vz_reP (hU_B_object_126 cI cZ cQ b0 b1 u0 u1 u2 u3 u4 u5 u6 u7 u8 p0 p1 h0 a1 a2 a3 a4 F L P ) hP
                  have hD : va_D (vz_A (wB cI cZ cQ b0 b1 u0 F ++ wL cI cZ u0 u1 u2 u3 u4 u5 u6 u7 u8 L ++ wP cI cZ p0 p1 h0 a1 a2 a3 a4 P)) (wB cI cZ cQ b0 b1 u0 F ++ wL cI cZ u0 u1 u2 u3 u4 u5 u6 u7 u8 L ++ wP cI cZ p0 p1 h0 a1 a2 a3 a4 P) := vz_reD (hU_B_object_126 cI cZ cQ b0 b1 u0 u1 u2 u3 u4 u5 u6 u7 u8 p0 p1 h0 a1 a2 a3 a4 F L P ) hD
                  refine W.eq (g2 := F0 m 129 ls [.int g_126]) rfl ?_
                  rw [m_B_object] at hres
                  try rw [hg_1] at hres
                  rw [if_neg c_4] at hres
                  try rw [hg_9] at hres
                  rw [if_neg c_12, if_neg c_35, if_neg c_41_0, if_neg c_41_1, if_neg c_41_2, if_neg c_41_3, if_pos c_41_4] at hres
                  try rw [hg_126] at hres
                  subst hres
                  subst hQ
                  exact vz_iret hx hb hr hlocks d_B_object_129 hS rfl hP
                · by_cases c_41_5 : x3 = 5
                  · refine lv_tableIn (off := 89) (tgt := 130) hx hb d_B_object_41 (by rw [c_41_5]; decide) (by rw [c_41_5]; decide) (by rw [c_41_5]; decide) (by decide) ?_
                    refine lv_aload hx hb d_B_object_130 (lv_at hl 0 rfl) ?_
                    refine va_get (D := (dC, dI)) (ci := 0) (v := .ref a3) (C := R_T) (T := F_T) (N := 5) hx hb hT i_T hown hK hP 13 rfl rfl 2 (by decide) (hT _ kw_91) (fun _ h9 => h9) rfl d_B_object_132 ?_
                    refine lv_iload_n hx hb d_B_object_135 rfl (lv_at hl 3 rfl) ?_
                    refine va_iald hx hb hK hP 16 0 rfl rfl (by have ho := iso_t (L := L) (x1 := x2) (by rw [hg_9]; assumption); have hl1 := hL.2.2; exact ti_vp (by omega) (by omega)) d_B_object_136 ?_
                    rw [m_B_object] at hres
                    try rw [hg_1] at hres
                    rw [if_neg c_4] at hres
                    try rw [hg_9] at hres
                    rw [if_neg c_12, if_neg c_35, if_neg c_41_0, if_neg c_41_1, if_neg c_41_2, if_neg c_41_3, if_neg c_41_4, if_pos c_41_5] at hres
                    subst hres
                    subst hQ
                    exact vz_iret hx hb hr hlocks d_B_object_137 hS rfl hP
                  · refine lv_tableOut (tgt := 138) hx hb d_B_object_41 (by have h0 := lv_neT c_41_0 (by decide : (0 : Int32).toInt = 0); have h1 := lv_neT c_41_1 (by decide : (1 : Int32).toInt = 1); have h2 := lv_neT c_41_2 (by decide : (2 : Int32).toInt = 2); have h3 := lv_neT c_41_3 (by decide : (3 : Int32).toInt = 3); have h4 := lv_neT c_41_4 (by decide : (4 : Int32).toInt = 4); have h5 := lv_neT c_41_5 (by decide : (5 : Int32).toInt = 5); omega) (by decide) ?_
                    refine lv_iconst (v := -1) hx hb d_B_object_138 (by decide) ?_
                    rw [m_B_object] at hres
                    try rw [hg_1] at hres
                    rw [if_neg c_4] at hres
                    try rw [hg_9] at hres
                    rw [if_neg c_12, if_neg c_35, if_neg c_41_0, if_neg c_41_1, if_neg c_41_2, if_neg c_41_3, if_neg c_41_4, if_neg c_41_5] at hres
                    subst hres
                    subst hQ
                    exact vz_iret hx hb hr hlocks d_B_object_139 hS rfl hP
      · have z_35 : (P.2.1.1 x2.toNatClampNeg).toInt = (0 : Int32).toInt := congrArg Int32.toInt c_35
        refine lv_iconst (v := -1) hx hb d_B_object_38 (by decide) ?_
        rw [m_B_object] at hres
        try rw [hg_1] at hres
        rw [if_neg c_4] at hres
        try rw [hg_9] at hres
        rw [if_neg c_12, if_pos c_35] at hres
        subst hres
        subst hQ
        exact vz_iret hx hb hr hlocks d_B_object_39 hS rfl hP
    · have z_12 : g_9.toInt = (0 : Int32).toInt := congrArg Int32.toInt c_12
      refine lv_iconst (v := -1) hx hb d_B_object_15 (by decide) ?_
      rw [m_B_object] at hres
      try rw [hg_1] at hres
      rw [if_neg c_4] at hres
      try rw [hg_9] at hres
      rw [if_pos c_12] at hres
      subst hres
      subst hQ
      exact vz_iret hx hb hr hlocks d_B_object_16 hS rfl hP
