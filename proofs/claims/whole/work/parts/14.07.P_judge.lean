theorem d_P_judge_0 : decode b_P_judge 0 = .ok (.aload_n 1, 1) := by decide +kernel
theorem d_P_judge_1 : decode b_P_judge 1 = .ok (.getfield 39, 3) := by decide +kernel
theorem d_P_judge_4 : decode b_P_judge 4 = .ok (.iload_n 2, 1) := by decide +kernel
theorem d_P_judge_5 : decode b_P_judge 5 = .ok (.iaload, 1) := by decide +kernel
theorem d_P_judge_6 : decode b_P_judge 6 = .ok (.iconst 4, 1) := by decide +kernel
theorem d_P_judge_7 : decode b_P_judge 7 = .ok (.if_icmp .eq 24, 3) := by decide +kernel
theorem d_P_judge_10 : decode b_P_judge 10 = .ok (.aload_n 0, 1) := by decide +kernel
theorem d_P_judge_11 : decode b_P_judge 11 = .ok (.aload_n 1, 1) := by decide +kernel
theorem d_P_judge_12 : decode b_P_judge 12 = .ok (.getfield 69, 3) := by decide +kernel
theorem d_P_judge_15 : decode b_P_judge 15 = .ok (.iload_n 2, 1) := by decide +kernel
theorem d_P_judge_16 : decode b_P_judge 16 = .ok (.iaload, 1) := by decide +kernel
theorem d_P_judge_17 : decode b_P_judge 17 = .ok (.invokevirtual 52, 3) := by decide +kernel
theorem d_P_judge_20 : decode b_P_judge 20 = .ok (.ifCond .eq 11, 3) := by decide +kernel
theorem d_P_judge_23 : decode b_P_judge 23 = .ok (.aload_n 0, 1) := by decide +kernel
theorem d_P_judge_24 : decode b_P_judge 24 = .ok (.getfield 9, 3) := by decide +kernel
theorem d_P_judge_27 : decode b_P_judge 27 = .ok (.iload_n 2, 1) := by decide +kernel
theorem d_P_judge_28 : decode b_P_judge 28 = .ok (.iconst 3, 1) := by decide +kernel
theorem d_P_judge_29 : decode b_P_judge 29 = .ok (.iastore, 1) := by decide +kernel
theorem d_P_judge_30 : decode b_P_judge 30 = .ok (.return_, 1) := by decide +kernel
theorem d_P_judge_31 : decode b_P_judge 31 = .ok (.iconst 1, 1) := by decide +kernel
theorem d_P_judge_32 : decode b_P_judge 32 = .ok (.istore_n 3, 1) := by decide +kernel
theorem d_P_judge_33 : decode b_P_judge 33 = .ok (.aload_n 1, 1) := by decide +kernel
theorem d_P_judge_34 : decode b_P_judge 34 = .ok (.getfield 42, 3) := by decide +kernel
theorem d_P_judge_37 : decode b_P_judge 37 = .ok (.iload_n 2, 1) := by decide +kernel
theorem d_P_judge_38 : decode b_P_judge 38 = .ok (.iaload, 1) := by decide +kernel
theorem d_P_judge_39 : decode b_P_judge 39 = .ok (.istore 4, 2) := by decide +kernel
theorem d_P_judge_41 : decode b_P_judge 41 = .ok (.aload_n 1, 1) := by decide +kernel
theorem d_P_judge_42 : decode b_P_judge 42 = .ok (.getfield 39, 3) := by decide +kernel
theorem d_P_judge_45 : decode b_P_judge 45 = .ok (.iload_n 2, 1) := by decide +kernel
theorem d_P_judge_46 : decode b_P_judge 46 = .ok (.iaload, 1) := by decide +kernel
theorem d_P_judge_47 : decode b_P_judge 47 = .ok (.tableswitch 92 0 3 #[29, 41, 66, 79], 29) := by decide +kernel
theorem d_P_judge_76 : decode b_P_judge 76 = .ok (.aload_n 0, 1) := by decide +kernel
theorem d_P_judge_77 : decode b_P_judge 77 = .ok (.getfield 18, 3) := by decide +kernel
theorem d_P_judge_80 : decode b_P_judge 80 = .ok (.iload 4, 2) := by decide +kernel
theorem d_P_judge_82 : decode b_P_judge 82 = .ok (.invokevirtual 72, 3) := by decide +kernel
theorem d_P_judge_85 : decode b_P_judge 85 = .ok (.goto 54, 3) := by decide +kernel
theorem d_P_judge_88 : decode b_P_judge 88 = .ok (.aload_n 0, 1) := by decide +kernel
theorem d_P_judge_89 : decode b_P_judge 89 = .ok (.getfield 18, 3) := by decide +kernel
theorem d_P_judge_92 : decode b_P_judge 92 = .ok (.iload 4, 2) := by decide +kernel
theorem d_P_judge_94 : decode b_P_judge 94 = .ok (.aload_n 1, 1) := by decide +kernel
theorem d_P_judge_95 : decode b_P_judge 95 = .ok (.getfield 76, 3) := by decide +kernel
theorem d_P_judge_98 : decode b_P_judge 98 = .ok (.iload_n 2, 1) := by decide +kernel
theorem d_P_judge_99 : decode b_P_judge 99 = .ok (.iaload, 1) := by decide +kernel
theorem d_P_judge_100 : decode b_P_judge 100 = .ok (.aload_n 1, 1) := by decide +kernel
theorem d_P_judge_101 : decode b_P_judge 101 = .ok (.getfield 79, 3) := by decide +kernel
theorem d_P_judge_104 : decode b_P_judge 104 = .ok (.iload_n 2, 1) := by decide +kernel
theorem d_P_judge_105 : decode b_P_judge 105 = .ok (.iaload, 1) := by decide +kernel
theorem d_P_judge_106 : decode b_P_judge 106 = .ok (.invokevirtual 82, 3) := by decide +kernel
theorem d_P_judge_109 : decode b_P_judge 109 = .ok (.istore_n 3, 1) := by decide +kernel
theorem d_P_judge_110 : decode b_P_judge 110 = .ok (.goto 29, 3) := by decide +kernel
theorem d_P_judge_113 : decode b_P_judge 113 = .ok (.aload_n 0, 1) := by decide +kernel
theorem d_P_judge_114 : decode b_P_judge 114 = .ok (.getfield 18, 3) := by decide +kernel
theorem d_P_judge_117 : decode b_P_judge 117 = .ok (.iload 4, 2) := by decide +kernel
theorem d_P_judge_119 : decode b_P_judge 119 = .ok (.invokevirtual 86, 3) := by decide +kernel
theorem d_P_judge_122 : decode b_P_judge 122 = .ok (.istore_n 3, 1) := by decide +kernel
theorem d_P_judge_123 : decode b_P_judge 123 = .ok (.goto 16, 3) := by decide +kernel
theorem d_P_judge_126 : decode b_P_judge 126 = .ok (.aload_n 0, 1) := by decide +kernel
theorem d_P_judge_127 : decode b_P_judge 127 = .ok (.getfield 18, 3) := by decide +kernel
theorem d_P_judge_130 : decode b_P_judge 130 = .ok (.iload 4, 2) := by decide +kernel
theorem d_P_judge_132 : decode b_P_judge 132 = .ok (.invokevirtual 89, 3) := by decide +kernel
theorem d_P_judge_135 : decode b_P_judge 135 = .ok (.istore_n 3, 1) := by decide +kernel
theorem d_P_judge_136 : decode b_P_judge 136 = .ok (.goto 3, 3) := by decide +kernel
theorem d_P_judge_139 : decode b_P_judge 139 = .ok (.aload_n 0, 1) := by decide +kernel
theorem d_P_judge_140 : decode b_P_judge 140 = .ok (.getfield 9, 3) := by decide +kernel
theorem d_P_judge_143 : decode b_P_judge 143 = .ok (.iload_n 2, 1) := by decide +kernel
theorem d_P_judge_144 : decode b_P_judge 144 = .ok (.iload_n 3, 1) := by decide +kernel
theorem d_P_judge_145 : decode b_P_judge 145 = .ok (.ifCond .eq 7, 3) := by decide +kernel
theorem d_P_judge_148 : decode b_P_judge 148 = .ok (.iconst 1, 1) := by decide +kernel
theorem d_P_judge_149 : decode b_P_judge 149 = .ok (.goto 4, 3) := by decide +kernel
theorem d_P_judge_152 : decode b_P_judge 152 = .ok (.iconst 2, 1) := by decide +kernel
theorem d_P_judge_153 : decode b_P_judge 153 = .ok (.iastore, 1) := by decide +kernel
theorem d_P_judge_154 : decode b_P_judge 154 = .ok (.return_, 1) := by decide +kernel
theorem hC_P_judge_82 (cI cZ cQ : ClassId) (q0 q1 q2 q3 q4 q5 q6 q7 q8 q9 q10 q11 q12 q13 q14 q15 : Nat) (S0 : cL) (S1 : cP) : ([11, 12, 13, 14, 15] : List Nat).map (fun i => (wL cI cZ q0 q1 q2 q3 q4 q5 q6 q7 q8 S0 ++ wP cI cZ q9 q10 q11 q12 q13 q14 q15 S1 : va_W)[i]?) = (wT cI cZ q11 q12 q13 q14 q15 S1.2.1 : va_W).map some := rfl
theorem hF_T_bringIn (cI cZ cQ : ClassId) {h0 a1 a2 a3 a4 : Nat} (S0 R0 : cT) : (wT cI cZ h0 a1 a2 a3 a4 R0 : va_W).map Prod.fst = (wT cI cZ h0 a1 a2 a3 a4 S0 : va_W).map Prod.fst := rfl
theorem hU_P_judge_82 (cI cZ cQ : ClassId) (q0 q1 q2 q3 q4 q5 q6 q7 q8 q9 q10 q11 q12 q13 q14 q15 : Nat) (S0 : cL) (S1 : cP) (R0 : cT) : vz_put (wL cI cZ q0 q1 q2 q3 q4 q5 q6 q7 q8 S0 ++ wP cI cZ q9 q10 q11 q12 q13 q14 q15 S1 : va_W) [11, 12, 13, 14, 15] (wT cI cZ q11 q12 q13 q14 q15 R0 : va_W) = wL cI cZ q0 q1 q2 q3 q4 q5 q6 q7 q8 S0 ++ wP cI cZ q9 q10 q11 q12 q13 q14 q15 (S1.1, R0, S1.2.2.1, S1.2.2.2.1, S1.2.2.2.2) := (show vz_put ([(q0, .inr (1, [.ref q1, .ref q2, .ref q3, .ref q4, .ref q5, .ref q6, .ref q7, .ref q8, .int S0.2.2.2.2.2.2.2.2.1, .int S0.2.2.2.2.2.2.2.2.2])), (q1, .inl (cI, 301, .inl S0.1)), (q2, .inl (cI, 301, .inl S0.2.1)), (q3, .inl (cI, 301, .inl S0.2.2.1)), (q4, .inl (cI, 301, .inl S0.2.2.2.1)), (q5, .inl (cI, 301, .inl S0.2.2.2.2.1)), (q6, .inl (cI, 301, .inl S0.2.2.2.2.2.1)), (q7, .inl (cI, 301, .inl S0.2.2.2.2.2.2.1)), (q8, .inl (cI, 300, .inl S0.2.2.2.2.2.2.2.1)), (q9, .inr (2, [.ref q10, .ref q11, .int S1.2.2.1, .int S1.2.2.2.1, .int S1.2.2.2.2])), (q10, .inl (cI, 301, .inl S1.1)), (q11, .inr (0, [.ref q12, .ref q13, .ref q14, .ref q15, .int S1.2.1.2.2.2.2])), (q12, .inl (cZ, 40, .inl S1.2.1.1)), (q13, .inl (cI, 40, .inl S1.2.1.2.1)), (q14, .inl (cI, 40, .inl S1.2.1.2.2.1)), (q15, .inl (cI, 40, .inl S1.2.1.2.2.2.1))] : va_W) [11, 12, 13, 14, 15] ([(q11, .inr (0, [.ref q12, .ref q13, .ref q14, .ref q15, .int R0.2.2.2.2])), (q12, .inl (cZ, 40, .inl R0.1)), (q13, .inl (cI, 40, .inl R0.2.1)), (q14, .inl (cI, 40, .inl R0.2.2.1)), (q15, .inl (cI, 40, .inl R0.2.2.2.1))] : va_W) = [(q0, .inr (1, [.ref q1, .ref q2, .ref q3, .ref q4, .ref q5, .ref q6, .ref q7, .ref q8, .int S0.2.2.2.2.2.2.2.2.1, .int S0.2.2.2.2.2.2.2.2.2])), (q1, .inl (cI, 301, .inl S0.1)), (q2, .inl (cI, 301, .inl S0.2.1)), (q3, .inl (cI, 301, .inl S0.2.2.1)), (q4, .inl (cI, 301, .inl S0.2.2.2.1)), (q5, .inl (cI, 301, .inl S0.2.2.2.2.1)), (q6, .inl (cI, 301, .inl S0.2.2.2.2.2.1)), (q7, .inl (cI, 301, .inl S0.2.2.2.2.2.2.1)), (q8, .inl (cI, 300, .inl S0.2.2.2.2.2.2.2.1)), (q9, .inr (2, [.ref q10, .ref q11, .int S1.2.2.1, .int S1.2.2.2.1, .int S1.2.2.2.2])), (q10, .inl (cI, 301, .inl S1.1)), (q11, .inr (0, [.ref q12, .ref q13, .ref q14, .ref q15, .int R0.2.2.2.2])), (q12, .inl (cZ, 40, .inl R0.1)), (q13, .inl (cI, 40, .inl R0.2.1)), (q14, .inl (cI, 40, .inl R0.2.2.1)), (q15, .inl (cI, 40, .inl R0.2.2.2.1))] from rfl).trans rfl
theorem hW_P_judge_153 (cI cZ cQ : ClassId) (q0 q1 q2 q3 q4 q5 q6 q7 q8 q9 q10 q11 q12 q13 q14 q15 : Nat) (S0 : cL) (S1 : cP) (v : cA) : (wL cI cZ q0 q1 q2 q3 q4 q5 q6 q7 q8 S0 ++ wP cI cZ q9 q10 q11 q12 q13 q14 q15 S1 : va_W).set 10 (q10, .inl (cI, 301, .inl v)) = wL cI cZ q0 q1 q2 q3 q4 q5 q6 q7 q8 S0 ++ wP cI cZ q9 q10 q11 q12 q13 q14 q15 (v, S1.2.1, S1.2.2.1, S1.2.2.2.1, S1.2.2.2.2) := rfl
theorem hC_P_judge_106 (cI cZ cQ : ClassId) (q0 q1 q2 q3 q4 q5 q6 q7 q8 q9 q10 q11 q12 q13 q14 q15 : Nat) (S0 : cL) (S1 : cP) : ([11, 12, 13, 14, 15] : List Nat).map (fun i => (wL cI cZ q0 q1 q2 q3 q4 q5 q6 q7 q8 S0 ++ wP cI cZ q9 q10 q11 q12 q13 q14 q15 S1 : va_W)[i]?) = (wT cI cZ q11 q12 q13 q14 q15 S1.2.1 : va_W).map some := rfl
theorem hF_T_moveTo (cI cZ cQ : ClassId) {h0 a1 a2 a3 a4 : Nat} (S0 R0 : cT) : (wT cI cZ h0 a1 a2 a3 a4 R0 : va_W).map Prod.fst = (wT cI cZ h0 a1 a2 a3 a4 S0 : va_W).map Prod.fst := rfl
theorem hU_P_judge_106 (cI cZ cQ : ClassId) (q0 q1 q2 q3 q4 q5 q6 q7 q8 q9 q10 q11 q12 q13 q14 q15 : Nat) (S0 : cL) (S1 : cP) (R0 : cT) : vz_put (wL cI cZ q0 q1 q2 q3 q4 q5 q6 q7 q8 S0 ++ wP cI cZ q9 q10 q11 q12 q13 q14 q15 S1 : va_W) [11, 12, 13, 14, 15] (wT cI cZ q11 q12 q13 q14 q15 R0 : va_W) = wL cI cZ q0 q1 q2 q3 q4 q5 q6 q7 q8 S0 ++ wP cI cZ q9 q10 q11 q12 q13 q14 q15 (S1.1, R0, S1.2.2.1, S1.2.2.2.1, S1.2.2.2.2) := (show vz_put ([(q0, .inr (1, [.ref q1, .ref q2, .ref q3, .ref q4, .ref q5, .ref q6, .ref q7, .ref q8, .int S0.2.2.2.2.2.2.2.2.1, .int S0.2.2.2.2.2.2.2.2.2])), (q1, .inl (cI, 301, .inl S0.1)), (q2, .inl (cI, 301, .inl S0.2.1)), (q3, .inl (cI, 301, .inl S0.2.2.1)), (q4, .inl (cI, 301, .inl S0.2.2.2.1)), (q5, .inl (cI, 301, .inl S0.2.2.2.2.1)), (q6, .inl (cI, 301, .inl S0.2.2.2.2.2.1)), (q7, .inl (cI, 301, .inl S0.2.2.2.2.2.2.1)), (q8, .inl (cI, 300, .inl S0.2.2.2.2.2.2.2.1)), (q9, .inr (2, [.ref q10, .ref q11, .int S1.2.2.1, .int S1.2.2.2.1, .int S1.2.2.2.2])), (q10, .inl (cI, 301, .inl S1.1)), (q11, .inr (0, [.ref q12, .ref q13, .ref q14, .ref q15, .int S1.2.1.2.2.2.2])), (q12, .inl (cZ, 40, .inl S1.2.1.1)), (q13, .inl (cI, 40, .inl S1.2.1.2.1)), (q14, .inl (cI, 40, .inl S1.2.1.2.2.1)), (q15, .inl (cI, 40, .inl S1.2.1.2.2.2.1))] : va_W) [11, 12, 13, 14, 15] ([(q11, .inr (0, [.ref q12, .ref q13, .ref q14, .ref q15, .int R0.2.2.2.2])), (q12, .inl (cZ, 40, .inl R0.1)), (q13, .inl (cI, 40, .inl R0.2.1)), (q14, .inl (cI, 40, .inl R0.2.2.1)), (q15, .inl (cI, 40, .inl R0.2.2.2.1))] : va_W) = [(q0, .inr (1, [.ref q1, .ref q2, .ref q3, .ref q4, .ref q5, .ref q6, .ref q7, .ref q8, .int S0.2.2.2.2.2.2.2.2.1, .int S0.2.2.2.2.2.2.2.2.2])), (q1, .inl (cI, 301, .inl S0.1)), (q2, .inl (cI, 301, .inl S0.2.1)), (q3, .inl (cI, 301, .inl S0.2.2.1)), (q4, .inl (cI, 301, .inl S0.2.2.2.1)), (q5, .inl (cI, 301, .inl S0.2.2.2.2.1)), (q6, .inl (cI, 301, .inl S0.2.2.2.2.2.1)), (q7, .inl (cI, 301, .inl S0.2.2.2.2.2.2.1)), (q8, .inl (cI, 300, .inl S0.2.2.2.2.2.2.2.1)), (q9, .inr (2, [.ref q10, .ref q11, .int S1.2.2.1, .int S1.2.2.2.1, .int S1.2.2.2.2])), (q10, .inl (cI, 301, .inl S1.1)), (q11, .inr (0, [.ref q12, .ref q13, .ref q14, .ref q15, .int R0.2.2.2.2])), (q12, .inl (cZ, 40, .inl R0.1)), (q13, .inl (cI, 40, .inl R0.2.1)), (q14, .inl (cI, 40, .inl R0.2.2.1)), (q15, .inl (cI, 40, .inl R0.2.2.2.1))] from rfl).trans rfl
theorem hC_P_judge_119 (cI cZ cQ : ClassId) (q0 q1 q2 q3 q4 q5 q6 q7 q8 q9 q10 q11 q12 q13 q14 q15 : Nat) (S0 : cL) (S1 : cP) : ([11, 12, 13, 14, 15] : List Nat).map (fun i => (wL cI cZ q0 q1 q2 q3 q4 q5 q6 q7 q8 S0 ++ wP cI cZ q9 q10 q11 q12 q13 q14 q15 S1 : va_W)[i]?) = (wT cI cZ q11 q12 q13 q14 q15 S1.2.1 : va_W).map some := rfl
theorem hF_T_throwAway (cI cZ cQ : ClassId) {h0 a1 a2 a3 a4 : Nat} (S0 R0 : cT) : (wT cI cZ h0 a1 a2 a3 a4 R0 : va_W).map Prod.fst = (wT cI cZ h0 a1 a2 a3 a4 S0 : va_W).map Prod.fst := rfl
theorem hU_P_judge_119 (cI cZ cQ : ClassId) (q0 q1 q2 q3 q4 q5 q6 q7 q8 q9 q10 q11 q12 q13 q14 q15 : Nat) (S0 : cL) (S1 : cP) (R0 : cT) : vz_put (wL cI cZ q0 q1 q2 q3 q4 q5 q6 q7 q8 S0 ++ wP cI cZ q9 q10 q11 q12 q13 q14 q15 S1 : va_W) [11, 12, 13, 14, 15] (wT cI cZ q11 q12 q13 q14 q15 R0 : va_W) = wL cI cZ q0 q1 q2 q3 q4 q5 q6 q7 q8 S0 ++ wP cI cZ q9 q10 q11 q12 q13 q14 q15 (S1.1, R0, S1.2.2.1, S1.2.2.2.1, S1.2.2.2.2) := (show vz_put ([(q0, .inr (1, [.ref q1, .ref q2, .ref q3, .ref q4, .ref q5, .ref q6, .ref q7, .ref q8, .int S0.2.2.2.2.2.2.2.2.1, .int S0.2.2.2.2.2.2.2.2.2])), (q1, .inl (cI, 301, .inl S0.1)), (q2, .inl (cI, 301, .inl S0.2.1)), (q3, .inl (cI, 301, .inl S0.2.2.1)), (q4, .inl (cI, 301, .inl S0.2.2.2.1)), (q5, .inl (cI, 301, .inl S0.2.2.2.2.1)), (q6, .inl (cI, 301, .inl S0.2.2.2.2.2.1)), (q7, .inl (cI, 301, .inl S0.2.2.2.2.2.2.1)), (q8, .inl (cI, 300, .inl S0.2.2.2.2.2.2.2.1)), (q9, .inr (2, [.ref q10, .ref q11, .int S1.2.2.1, .int S1.2.2.2.1, .int S1.2.2.2.2])), (q10, .inl (cI, 301, .inl S1.1)), (q11, .inr (0, [.ref q12, .ref q13, .ref q14, .ref q15, .int S1.2.1.2.2.2.2])), (q12, .inl (cZ, 40, .inl S1.2.1.1)), (q13, .inl (cI, 40, .inl S1.2.1.2.1)), (q14, .inl (cI, 40, .inl S1.2.1.2.2.1)), (q15, .inl (cI, 40, .inl S1.2.1.2.2.2.1))] : va_W) [11, 12, 13, 14, 15] ([(q11, .inr (0, [.ref q12, .ref q13, .ref q14, .ref q15, .int R0.2.2.2.2])), (q12, .inl (cZ, 40, .inl R0.1)), (q13, .inl (cI, 40, .inl R0.2.1)), (q14, .inl (cI, 40, .inl R0.2.2.1)), (q15, .inl (cI, 40, .inl R0.2.2.2.1))] : va_W) = [(q0, .inr (1, [.ref q1, .ref q2, .ref q3, .ref q4, .ref q5, .ref q6, .ref q7, .ref q8, .int S0.2.2.2.2.2.2.2.2.1, .int S0.2.2.2.2.2.2.2.2.2])), (q1, .inl (cI, 301, .inl S0.1)), (q2, .inl (cI, 301, .inl S0.2.1)), (q3, .inl (cI, 301, .inl S0.2.2.1)), (q4, .inl (cI, 301, .inl S0.2.2.2.1)), (q5, .inl (cI, 301, .inl S0.2.2.2.2.1)), (q6, .inl (cI, 301, .inl S0.2.2.2.2.2.1)), (q7, .inl (cI, 301, .inl S0.2.2.2.2.2.2.1)), (q8, .inl (cI, 300, .inl S0.2.2.2.2.2.2.2.1)), (q9, .inr (2, [.ref q10, .ref q11, .int S1.2.2.1, .int S1.2.2.2.1, .int S1.2.2.2.2])), (q10, .inl (cI, 301, .inl S1.1)), (q11, .inr (0, [.ref q12, .ref q13, .ref q14, .ref q15, .int R0.2.2.2.2])), (q12, .inl (cZ, 40, .inl R0.1)), (q13, .inl (cI, 40, .inl R0.2.1)), (q14, .inl (cI, 40, .inl R0.2.2.1)), (q15, .inl (cI, 40, .inl R0.2.2.2.1))] from rfl).trans rfl
theorem hC_P_judge_132 (cI cZ cQ : ClassId) (q0 q1 q2 q3 q4 q5 q6 q7 q8 q9 q10 q11 q12 q13 q14 q15 : Nat) (S0 : cL) (S1 : cP) : ([11, 12, 13, 14, 15] : List Nat).map (fun i => (wL cI cZ q0 q1 q2 q3 q4 q5 q6 q7 q8 S0 ++ wP cI cZ q9 q10 q11 q12 q13 q14 q15 S1 : va_W)[i]?) = (wT cI cZ q11 q12 q13 q14 q15 S1.2.1 : va_W).map some := rfl
theorem hF_T_bringBack (cI cZ cQ : ClassId) {h0 a1 a2 a3 a4 : Nat} (S0 R0 : cT) : (wT cI cZ h0 a1 a2 a3 a4 R0 : va_W).map Prod.fst = (wT cI cZ h0 a1 a2 a3 a4 S0 : va_W).map Prod.fst := rfl
theorem hU_P_judge_132 (cI cZ cQ : ClassId) (q0 q1 q2 q3 q4 q5 q6 q7 q8 q9 q10 q11 q12 q13 q14 q15 : Nat) (S0 : cL) (S1 : cP) (R0 : cT) : vz_put (wL cI cZ q0 q1 q2 q3 q4 q5 q6 q7 q8 S0 ++ wP cI cZ q9 q10 q11 q12 q13 q14 q15 S1 : va_W) [11, 12, 13, 14, 15] (wT cI cZ q11 q12 q13 q14 q15 R0 : va_W) = wL cI cZ q0 q1 q2 q3 q4 q5 q6 q7 q8 S0 ++ wP cI cZ q9 q10 q11 q12 q13 q14 q15 (S1.1, R0, S1.2.2.1, S1.2.2.2.1, S1.2.2.2.2) := (show vz_put ([(q0, .inr (1, [.ref q1, .ref q2, .ref q3, .ref q4, .ref q5, .ref q6, .ref q7, .ref q8, .int S0.2.2.2.2.2.2.2.2.1, .int S0.2.2.2.2.2.2.2.2.2])), (q1, .inl (cI, 301, .inl S0.1)), (q2, .inl (cI, 301, .inl S0.2.1)), (q3, .inl (cI, 301, .inl S0.2.2.1)), (q4, .inl (cI, 301, .inl S0.2.2.2.1)), (q5, .inl (cI, 301, .inl S0.2.2.2.2.1)), (q6, .inl (cI, 301, .inl S0.2.2.2.2.2.1)), (q7, .inl (cI, 301, .inl S0.2.2.2.2.2.2.1)), (q8, .inl (cI, 300, .inl S0.2.2.2.2.2.2.2.1)), (q9, .inr (2, [.ref q10, .ref q11, .int S1.2.2.1, .int S1.2.2.2.1, .int S1.2.2.2.2])), (q10, .inl (cI, 301, .inl S1.1)), (q11, .inr (0, [.ref q12, .ref q13, .ref q14, .ref q15, .int S1.2.1.2.2.2.2])), (q12, .inl (cZ, 40, .inl S1.2.1.1)), (q13, .inl (cI, 40, .inl S1.2.1.2.1)), (q14, .inl (cI, 40, .inl S1.2.1.2.2.1)), (q15, .inl (cI, 40, .inl S1.2.1.2.2.2.1))] : va_W) [11, 12, 13, 14, 15] ([(q11, .inr (0, [.ref q12, .ref q13, .ref q14, .ref q15, .int R0.2.2.2.2])), (q12, .inl (cZ, 40, .inl R0.1)), (q13, .inl (cI, 40, .inl R0.2.1)), (q14, .inl (cI, 40, .inl R0.2.2.1)), (q15, .inl (cI, 40, .inl R0.2.2.2.1))] : va_W) = [(q0, .inr (1, [.ref q1, .ref q2, .ref q3, .ref q4, .ref q5, .ref q6, .ref q7, .ref q8, .int S0.2.2.2.2.2.2.2.2.1, .int S0.2.2.2.2.2.2.2.2.2])), (q1, .inl (cI, 301, .inl S0.1)), (q2, .inl (cI, 301, .inl S0.2.1)), (q3, .inl (cI, 301, .inl S0.2.2.1)), (q4, .inl (cI, 301, .inl S0.2.2.2.1)), (q5, .inl (cI, 301, .inl S0.2.2.2.2.1)), (q6, .inl (cI, 301, .inl S0.2.2.2.2.2.1)), (q7, .inl (cI, 301, .inl S0.2.2.2.2.2.2.1)), (q8, .inl (cI, 300, .inl S0.2.2.2.2.2.2.2.1)), (q9, .inr (2, [.ref q10, .ref q11, .int S1.2.2.1, .int S1.2.2.2.1, .int S1.2.2.2.2])), (q10, .inl (cI, 301, .inl S1.1)), (q11, .inr (0, [.ref q12, .ref q13, .ref q14, .ref q15, .int R0.2.2.2.2])), (q12, .inl (cZ, 40, .inl R0.1)), (q13, .inl (cI, 40, .inl R0.2.1)), (q14, .inl (cI, 40, .inl R0.2.2.1)), (q15, .inl (cI, 40, .inl R0.2.2.2.1))] from rfl).trans rfl
theorem hC_P_judge_17 (cI cZ cQ : ClassId) (q0 q1 q2 q3 q4 q5 q6 q7 q8 q9 q10 q11 q12 q13 q14 q15 : Nat) (S0 : cL) (S1 : cP) : ([9, 10, 11, 12, 13, 14, 15] : List Nat).map (fun i => (wL cI cZ q0 q1 q2 q3 q4 q5 q6 q7 q8 S0 ++ wP cI cZ q9 q10 q11 q12 q13 q14 q15 S1 : va_W)[i]?) = (wP cI cZ q9 q10 q11 q12 q13 q14 q15 S1 : va_W).map some := rfl
theorem hU_P_judge_17 (cI cZ cQ : ClassId) (q0 q1 q2 q3 q4 q5 q6 q7 q8 q9 q10 q11 q12 q13 q14 q15 : Nat) (S0 : cL) (S1 : cP)  : vz_put (wL cI cZ q0 q1 q2 q3 q4 q5 q6 q7 q8 S0 ++ wP cI cZ q9 q10 q11 q12 q13 q14 q15 S1 : va_W) [9, 10, 11, 12, 13, 14, 15] (wP cI cZ q9 q10 q11 q12 q13 q14 q15 S1 : va_W) = wL cI cZ q0 q1 q2 q3 q4 q5 q6 q7 q8 S0 ++ wP cI cZ q9 q10 q11 q12 q13 q14 q15 S1 := (show vz_put ([(q0, .inr (1, [.ref q1, .ref q2, .ref q3, .ref q4, .ref q5, .ref q6, .ref q7, .ref q8, .int S0.2.2.2.2.2.2.2.2.1, .int S0.2.2.2.2.2.2.2.2.2])), (q1, .inl (cI, 301, .inl S0.1)), (q2, .inl (cI, 301, .inl S0.2.1)), (q3, .inl (cI, 301, .inl S0.2.2.1)), (q4, .inl (cI, 301, .inl S0.2.2.2.1)), (q5, .inl (cI, 301, .inl S0.2.2.2.2.1)), (q6, .inl (cI, 301, .inl S0.2.2.2.2.2.1)), (q7, .inl (cI, 301, .inl S0.2.2.2.2.2.2.1)), (q8, .inl (cI, 300, .inl S0.2.2.2.2.2.2.2.1)), (q9, .inr (2, [.ref q10, .ref q11, .int S1.2.2.1, .int S1.2.2.2.1, .int S1.2.2.2.2])), (q10, .inl (cI, 301, .inl S1.1)), (q11, .inr (0, [.ref q12, .ref q13, .ref q14, .ref q15, .int S1.2.1.2.2.2.2])), (q12, .inl (cZ, 40, .inl S1.2.1.1)), (q13, .inl (cI, 40, .inl S1.2.1.2.1)), (q14, .inl (cI, 40, .inl S1.2.1.2.2.1)), (q15, .inl (cI, 40, .inl S1.2.1.2.2.2.1))] : va_W) [9, 10, 11, 12, 13, 14, 15] ([(q9, .inr (2, [.ref q10, .ref q11, .int S1.2.2.1, .int S1.2.2.2.1, .int S1.2.2.2.2])), (q10, .inl (cI, 301, .inl S1.1)), (q11, .inr (0, [.ref q12, .ref q13, .ref q14, .ref q15, .int S1.2.1.2.2.2.2])), (q12, .inl (cZ, 40, .inl S1.2.1.1)), (q13, .inl (cI, 40, .inl S1.2.1.2.1)), (q14, .inl (cI, 40, .inl S1.2.1.2.2.1)), (q15, .inl (cI, 40, .inl S1.2.1.2.2.2.1))] : va_W) = [(q0, .inr (1, [.ref q1, .ref q2, .ref q3, .ref q4, .ref q5, .ref q6, .ref q7, .ref q8, .int S0.2.2.2.2.2.2.2.2.1, .int S0.2.2.2.2.2.2.2.2.2])), (q1, .inl (cI, 301, .inl S0.1)), (q2, .inl (cI, 301, .inl S0.2.1)), (q3, .inl (cI, 301, .inl S0.2.2.1)), (q4, .inl (cI, 301, .inl S0.2.2.2.1)), (q5, .inl (cI, 301, .inl S0.2.2.2.2.1)), (q6, .inl (cI, 301, .inl S0.2.2.2.2.2.1)), (q7, .inl (cI, 301, .inl S0.2.2.2.2.2.2.1)), (q8, .inl (cI, 300, .inl S0.2.2.2.2.2.2.2.1)), (q9, .inr (2, [.ref q10, .ref q11, .int S1.2.2.1, .int S1.2.2.2.1, .int S1.2.2.2.2])), (q10, .inl (cI, 301, .inl S1.1)), (q11, .inr (0, [.ref q12, .ref q13, .ref q14, .ref q15, .int S1.2.1.2.2.2.2])), (q12, .inl (cZ, 40, .inl S1.2.1.1)), (q13, .inl (cI, 40, .inl S1.2.1.2.1)), (q14, .inl (cI, 40, .inl S1.2.1.2.2.1)), (q15, .inl (cI, 40, .inl S1.2.1.2.2.2.1))] from rfl).trans rfl
theorem hW_P_judge_29 (cI cZ cQ : ClassId) (q0 q1 q2 q3 q4 q5 q6 q7 q8 q9 q10 q11 q12 q13 q14 q15 : Nat) (S0 : cL) (S1 : cP) (v : cA) : (wL cI cZ q0 q1 q2 q3 q4 q5 q6 q7 q8 S0 ++ wP cI cZ q9 q10 q11 q12 q13 q14 q15 S1 : va_W).set 10 (q10, .inl (cI, 301, .inl v)) = wL cI cZ q0 q1 q2 q3 q4 q5 q6 q7 q8 S0 ++ wP cI cZ q9 q10 q11 q12 q13 q14 q15 (v, S1.2.1, S1.2.2.1, S1.2.2.2.1, S1.2.2.2.2) := rfl
def m_P_judge (L : cL) (P : cP) (x2 : Int32) : cP := (if (L.1 x2.toNatClampNeg) = 4 then (if (L.1 x2.toNatClampNeg) = 0 then (if (1 : Int32) = 0 then (upd P.1 x2.toNatClampNeg 2, (m_T_bringIn P.2.1 (L.2.2.2.1 x2.toNatClampNeg)), P.2.2.1, P.2.2.2.1, P.2.2.2.2) else (upd P.1 x2.toNatClampNeg 1, (m_T_bringIn P.2.1 (L.2.2.2.1 x2.toNatClampNeg)), P.2.2.1, P.2.2.2.1, P.2.2.2.2)) else (if (L.1 x2.toNatClampNeg) = 1 then (if (m_T_moveTo P.2.1 (L.2.2.2.1 x2.toNatClampNeg) (L.2.2.2.2.1 x2.toNatClampNeg) (L.2.2.2.2.2.1 x2.toNatClampNeg)).1 = 0 then (upd P.1 x2.toNatClampNeg 2, (m_T_moveTo P.2.1 (L.2.2.2.1 x2.toNatClampNeg) (L.2.2.2.2.1 x2.toNatClampNeg) (L.2.2.2.2.2.1 x2.toNatClampNeg)).2, P.2.2.1, P.2.2.2.1, P.2.2.2.2) else (upd P.1 x2.toNatClampNeg 1, (m_T_moveTo P.2.1 (L.2.2.2.1 x2.toNatClampNeg) (L.2.2.2.2.1 x2.toNatClampNeg) (L.2.2.2.2.2.1 x2.toNatClampNeg)).2, P.2.2.1, P.2.2.2.1, P.2.2.2.2)) else (if (L.1 x2.toNatClampNeg) = 2 then (if (m_T_throwAway P.2.1 (L.2.2.2.1 x2.toNatClampNeg)).1 = 0 then (upd P.1 x2.toNatClampNeg 2, (m_T_throwAway P.2.1 (L.2.2.2.1 x2.toNatClampNeg)).2, P.2.2.1, P.2.2.2.1, P.2.2.2.2) else (upd P.1 x2.toNatClampNeg 1, (m_T_throwAway P.2.1 (L.2.2.2.1 x2.toNatClampNeg)).2, P.2.2.1, P.2.2.2.1, P.2.2.2.2)) else (if (L.1 x2.toNatClampNeg) = 3 then (if (m_T_bringBack P.2.1 (L.2.2.2.1 x2.toNatClampNeg)).1 = 0 then (upd P.1 x2.toNatClampNeg 2, (m_T_bringBack P.2.1 (L.2.2.2.1 x2.toNatClampNeg)).2, P.2.2.1, P.2.2.2.1, P.2.2.2.2) else (upd P.1 x2.toNatClampNeg 1, (m_T_bringBack P.2.1 (L.2.2.2.1 x2.toNatClampNeg)).2, P.2.2.1, P.2.2.2.1, P.2.2.2.2)) else (if (1 : Int32) = 0 then (upd P.1 x2.toNatClampNeg 2, P.2.1, P.2.2.1, P.2.2.2.1, P.2.2.2.2) else (upd P.1 x2.toNatClampNeg 1, P.2.1, P.2.2.1, P.2.2.2.1, P.2.2.2.2)))))) else (if (m_P_knows P (L.2.2.2.2.2.2.1 x2.toNatClampNeg)) = 0 then (if (L.1 x2.toNatClampNeg) = 0 then (if (1 : Int32) = 0 then (upd P.1 x2.toNatClampNeg 2, (m_T_bringIn P.2.1 (L.2.2.2.1 x2.toNatClampNeg)), P.2.2.1, P.2.2.2.1, P.2.2.2.2) else (upd P.1 x2.toNatClampNeg 1, (m_T_bringIn P.2.1 (L.2.2.2.1 x2.toNatClampNeg)), P.2.2.1, P.2.2.2.1, P.2.2.2.2)) else (if (L.1 x2.toNatClampNeg) = 1 then (if (m_T_moveTo P.2.1 (L.2.2.2.1 x2.toNatClampNeg) (L.2.2.2.2.1 x2.toNatClampNeg) (L.2.2.2.2.2.1 x2.toNatClampNeg)).1 = 0 then (upd P.1 x2.toNatClampNeg 2, (m_T_moveTo P.2.1 (L.2.2.2.1 x2.toNatClampNeg) (L.2.2.2.2.1 x2.toNatClampNeg) (L.2.2.2.2.2.1 x2.toNatClampNeg)).2, P.2.2.1, P.2.2.2.1, P.2.2.2.2) else (upd P.1 x2.toNatClampNeg 1, (m_T_moveTo P.2.1 (L.2.2.2.1 x2.toNatClampNeg) (L.2.2.2.2.1 x2.toNatClampNeg) (L.2.2.2.2.2.1 x2.toNatClampNeg)).2, P.2.2.1, P.2.2.2.1, P.2.2.2.2)) else (if (L.1 x2.toNatClampNeg) = 2 then (if (m_T_throwAway P.2.1 (L.2.2.2.1 x2.toNatClampNeg)).1 = 0 then (upd P.1 x2.toNatClampNeg 2, (m_T_throwAway P.2.1 (L.2.2.2.1 x2.toNatClampNeg)).2, P.2.2.1, P.2.2.2.1, P.2.2.2.2) else (upd P.1 x2.toNatClampNeg 1, (m_T_throwAway P.2.1 (L.2.2.2.1 x2.toNatClampNeg)).2, P.2.2.1, P.2.2.2.1, P.2.2.2.2)) else (if (L.1 x2.toNatClampNeg) = 3 then (if (m_T_bringBack P.2.1 (L.2.2.2.1 x2.toNatClampNeg)).1 = 0 then (upd P.1 x2.toNatClampNeg 2, (m_T_bringBack P.2.1 (L.2.2.2.1 x2.toNatClampNeg)).2, P.2.2.1, P.2.2.2.1, P.2.2.2.2) else (upd P.1 x2.toNatClampNeg 1, (m_T_bringBack P.2.1 (L.2.2.2.1 x2.toNatClampNeg)).2, P.2.2.1, P.2.2.2.1, P.2.2.2.2)) else (if (1 : Int32) = 0 then (upd P.1 x2.toNatClampNeg 2, P.2.1, P.2.2.1, P.2.2.2.1, P.2.2.2.2) else (upd P.1 x2.toNatClampNeg 1, P.2.1, P.2.2.1, P.2.2.2.1, P.2.2.2.2)))))) else (upd P.1 x2.toNatClampNeg 3, P.2.1, P.2.2.1, P.2.2.2.1, P.2.2.2.2)))
set_option maxHeartbeats 1000000 in
set_option maxRecDepth 100000 in
theorem c_P_judge (l : Launch) (dC : Nat → ClassId) (dI : Nat → Nat → Nat) (cI cZ cQ : ClassId) (u0 : Nat) (u1 : Nat) (u2 : Nat) (u3 : Nat) (u4 : Nat) (u5 : Nat) (u6 : Nat) (u7 : Nat) (u8 : Nat) (L : cL) (p0 : Nat) (p1 : Nat) (h0 : Nat) (a1 : Nat) (a2 : Nat) (a3 : Nat) (a4 : Nat) (P : cP) (x2 : Int32) (hok : okT P.2.1) (hrow : okR L x2) : vz_C l (dC, dI) classes [(cI, .int), (cZ, .boolean), (cQ, .object "BinTrees$Person")] y_P_judge (Cond.code y_P_judge b_P_judge 5 none :: vz_tbl) ({ frames := 3, cells := 0, slots := 0, locals := 72 }) [.ref p0, .ref u0, .int x2] (wL cI cZ u0 u1 u2 u3 u4 u5 u6 u7 u8 L ++ wP cI cZ p0 p1 h0 a1 a2 a3 a4 P) (none) (wL cI cZ u0 u1 u2 u3 u4 u5 u6 u7 u8 L ++ wP cI cZ p0 p1 h0 a1 a2 a3 a4 (m_P_judge L P x2)) := by
  generalize hres : (m_P_judge L P x2) = RES
  refine vz_C.of (by decide) (Nat.le_of_ble_eq_true rfl) ?_
  intro p e s m below meth c ls E hl hK hP hD hS
  obtain ⟨hx, hb, hr, hml, hown, hT, hlocks⟩ := E
  obtain ⟨Q, hQ⟩ : ∃ Q, Q = MQ below (vz_Q (dC, dI) classes (wL cI cZ u0 u1 u2 u3 u4 u5 u6 u7 u8 L ++ wP cI cZ p0 p1 h0 a1 a2 a3 a4 P) (none) (wL cI cZ u0 u1 u2 u3 u4 u5 u6 u7 u8 L ++ wP cI cZ p0 p1 h0 a1 a2 a3 a4 RES)) ([.ref p0, .ref u0, .int x2] : List Value).toArray s 0 0 (vz_A (wL cI cZ u0 u1 u2 u3 u4 u5 u6 u7 u8 L ++ wP cI cZ p0 p1 h0 a1 a2 a3 a4 P)) := ⟨_, rfl⟩
  rw [← hQ]
  have hl : lv_has ls 5 [(0, .ref p0), (1, .ref u0), (2, .int x2)] := hl
  have T0 := ti_0
  have T1 := ti_1
  have Tm := ti_m1
  have T8 := ti_8
  have T39 := ti_39
  have T40 := ti_40
  have T4 := ti_4
  have T300 := ti_300
  have h2 := hrow.1
  have hS0 := hS
  refine lv_aload_n hx hb d_P_judge_0 rfl (lv_at hl 1 rfl) ?_
  refine va_get (D := (dC, dI)) (ci := 1) (v := .ref u1) (C := R_L) (T := F_L) (N := 10) hx hb hT i_L hown hK hP 0 rfl rfl 0 (by decide) (hT _ kw_22) (fun _ h9 => h9) rfl d_P_judge_1 ?_
  refine lv_iload_n hx hb d_P_judge_4 rfl (lv_at hl 2 rfl) ?_
  refine va_iald hx hb hK hP 1 0 rfl rfl (ti_vp (by omega) (by omega)) d_P_judge_5 ?_
  refine lv_iconst (v := 4) hx hb d_P_judge_6 (by decide) ?_
  refine lv_icmp_eq (tgt := 31) hx hb d_P_judge_7 (by decide) (fun c_7 => ?_) (fun c_7 => ?_)
  · have z_7 : (L.1 x2.toNatClampNeg).toInt = (4 : Int32).toInt := congrArg Int32.toInt c_7
    refine lv_iconst (v := 1) hx hb d_P_judge_31 (by decide) ?_
    refine lv_istore_n (lv' := [(3, .int 1), (0, .ref p0), (1, .ref u0), (2, .int x2)]) hx hb d_P_judge_32 rfl hl (by decide) rfl (fun ls hl => ?_)
    refine lv_aload_n hx hb d_P_judge_33 rfl (lv_at hl 2 rfl) ?_
    refine va_get (D := (dC, dI)) (ci := 1) (v := .ref u4) (C := R_L) (T := F_L) (N := 10) hx hb hT i_L hown hK hP 0 rfl rfl 3 (by decide) (hT _ kw_30) (fun _ h9 => h9) rfl d_P_judge_34 ?_
    refine lv_iload_n hx hb d_P_judge_37 rfl (lv_at hl 3 rfl) ?_
    refine va_iald hx hb hK hP 4 0 rfl rfl (ti_vp (by omega) (by omega)) d_P_judge_38 ?_
    refine lv_istore (lv' := [(4, .int (L.2.2.2.1 x2.toNatClampNeg)), (3, .int 1), (0, .ref p0), (1, .ref u0), (2, .int x2)]) hx hb d_P_judge_39 hl (by decide) rfl (fun ls hl => ?_)
    refine lv_aload_n hx hb d_P_judge_41 rfl (lv_at hl 3 rfl) ?_
    refine va_get (D := (dC, dI)) (ci := 1) (v := .ref u1) (C := R_L) (T := F_L) (N := 10) hx hb hT i_L hown hK hP 0 rfl rfl 0 (by decide) (hT _ kw_22) (fun _ h9 => h9) rfl d_P_judge_42 ?_
    refine lv_iload_n hx hb d_P_judge_45 rfl (lv_at hl 4 rfl) ?_
    refine va_iald hx hb hK hP 1 0 rfl rfl (ti_vp (by omega) (by omega)) d_P_judge_46 ?_
    by_cases c_47_0 : (L.1 x2.toNatClampNeg) = 0
    · refine lv_tableIn (off := 29) (tgt := 76) hx hb d_P_judge_47 (by rw [c_47_0]; decide) (by rw [c_47_0]; decide) (by rw [c_47_0]; decide) (by decide) ?_
      refine lv_aload_n hx hb d_P_judge_76 rfl (lv_at hl 2 rfl) ?_
      refine va_get (D := (dC, dI)) (ci := 2) (v := .ref h0) (C := R_P) (T := F_P) (N := 5) hx hb hT i_P hown hK hP 9 rfl rfl 1 (by decide) (hT _ kw_109) (fun _ h9 => h9) rfl d_P_judge_77 ?_
      refine lv_iload hx hb d_P_judge_80 (lv_at hl 0 rfl) ?_
      have hc := c_T_bringIn l dC dI cI cZ cQ h0 a1 a2 a3 a4 P.2.1 (L.2.2.2.1 x2.toNatClampNeg) (hok) (by have := hrow.2.2.1 (by rw [c_47_0]; decide); omega)
      generalize hg_82 : (m_T_bringIn P.2.1 (L.2.2.2.1 x2.toNatClampNeg)) = g_82 at hc
      refine vz_callV (As := [.int (L.2.2.2.1 x2.toNatClampNeg)]) (rest := []) ⟨hx, hb, hml, hown, hT⟩ hc (vz_goodV kw_181 kw_182 kw_183 kw_4 kw_184) ⟨rfl, hd_T_bringIn⟩ ⟨⟨rfl, rfl⟩, Nat.le_of_ble_eq_true rfl, Nat.le_of_ble_eq_true rfl⟩ hK hP hD hS [11, 12, 13, 14, 15] rfl (hC_P_judge_82 cI cZ cQ u0 u1 u2 u3 u4 u5 u6 u7 u8 p0 p1 h0 a1 a2 a3 a4 L P) (hF_T_bringIn cI cZ cQ _ _) 0 0 rfl rfl rfl rfl hl.1 rfl (Nat.le_of_ble_eq_true rfl) ⟨Nat.zero_le _, Nat.zero_le _⟩ d_P_judge_82 (fun H locs hP hD hS => ?_)
      have hP : va_P (dC, dI) classes (wL cI cZ u0 u1 u2 u3 u4 u5 u6 u7 u8 L ++ wP cI cZ p0 p1 h0 a1 a2 a3 a4 (P.1, g_82, P.2.2.1, P.2.2.2.1, P.2.2.2.2)) H := vz_reP (hU_P_judge_82 cI cZ cQ u0 u1 u2 u3 u4 u5 u6 u7 u8 p0 p1 h0 a1 a2 a3 a4 L P g_82) hP
      have hD : va_D (vz_A (wL cI cZ u0 u1 u2 u3 u4 u5 u6 u7 u8 L ++ wP cI cZ p0 p1 h0 a1 a2 a3 a4 P)) (wL cI cZ u0 u1 u2 u3 u4 u5 u6 u7 u8 L ++ wP cI cZ p0 p1 h0 a1 a2 a3 a4 (P.1, g_82, P.2.2.1, P.2.2.2.1, P.2.2.2.2)) := vz_reD (hU_P_judge_82 cI cZ cQ u0 u1 u2 u3 u4 u5 u6 u7 u8 p0 p1 h0 a1 a2 a3 a4 L P g_82) hD
      refine W.eq (g2 := F0 m 85 ls []) rfl ?_
      refine lv_goto (tgt := 139) hx hb d_P_judge_85 (by decide) ?_
      refine lv_aload_n hx hb d_P_judge_139 rfl (lv_at hl 2 rfl) ?_
      refine va_get (D := (dC, dI)) (ci := 2) (v := .ref p1) (C := R_P) (T := F_P) (N := 5) hx hb hT i_P hown hK hP 9 rfl rfl 0 (by decide) (hT _ kw_107) (fun _ h9 => h9) rfl d_P_judge_140 ?_
      refine lv_iload_n hx hb d_P_judge_143 rfl (lv_at hl 4 rfl) ?_
      refine lv_iload_n hx hb d_P_judge_144 rfl (lv_at hl 1 rfl) ?_
      refine lv_if_eq (tgt := 152) hx hb d_P_judge_145 (by decide) (fun c_145 => ?_) (fun c_145 => ?_)
      · have z_145 : (1 : Int32).toInt = (0 : Int32).toInt := congrArg Int32.toInt c_145
        refine lv_iconst (v := 2) hx hb d_P_judge_152 (by decide) ?_
        refine va_iast hx hb hK hP hD hS 10 0 rfl rfl (ti_vp (by omega) (by omega)) d_P_judge_153 (fun H locs hP hD hS => ?_)
        have hP : va_P (dC, dI) classes (wL cI cZ u0 u1 u2 u3 u4 u5 u6 u7 u8 L ++ wP cI cZ p0 p1 h0 a1 a2 a3 a4 (upd P.1 x2.toNatClampNeg 2, g_82, P.2.2.1, P.2.2.2.1, P.2.2.2.2)) H := vz_reP (hW_P_judge_153 cI cZ cQ u0 u1 u2 u3 u4 u5 u6 u7 u8 p0 p1 h0 a1 a2 a3 a4 L (P.1, g_82, P.2.2.1, P.2.2.2.1, P.2.2.2.2) (upd P.1 x2.toNatClampNeg 2)) hP
        have hD : va_D (vz_A (wL cI cZ u0 u1 u2 u3 u4 u5 u6 u7 u8 L ++ wP cI cZ p0 p1 h0 a1 a2 a3 a4 P)) (wL cI cZ u0 u1 u2 u3 u4 u5 u6 u7 u8 L ++ wP cI cZ p0 p1 h0 a1 a2 a3 a4 (upd P.1 x2.toNatClampNeg 2, g_82, P.2.2.1, P.2.2.2.1, P.2.2.2.2)) := vz_reD (hW_P_judge_153 cI cZ cQ u0 u1 u2 u3 u4 u5 u6 u7 u8 p0 p1 h0 a1 a2 a3 a4 L (P.1, g_82, P.2.2.1, P.2.2.2.1, P.2.2.2.2) (upd P.1 x2.toNatClampNeg 2)) hD
        rw [m_P_judge, if_pos c_7, if_pos c_47_0] at hres
        try rw [hg_82] at hres
        rw [if_pos c_145] at hres
        subst hres
        subst hQ
        exact vz_vret hx hb hr hlocks d_P_judge_154 hS rfl hP
      · have z_145 : ¬ (1 : Int32).toInt = (0 : Int32).toInt := mt Int32.toInt_inj.mp c_145
        refine lv_iconst (v := 1) hx hb d_P_judge_148 (by decide) ?_
        refine lv_goto (tgt := 153) hx hb d_P_judge_149 (by decide) ?_
        refine va_iast hx hb hK hP hD hS 10 0 rfl rfl (ti_vp (by omega) (by omega)) d_P_judge_153 (fun H locs hP hD hS => ?_)
        have hP : va_P (dC, dI) classes (wL cI cZ u0 u1 u2 u3 u4 u5 u6 u7 u8 L ++ wP cI cZ p0 p1 h0 a1 a2 a3 a4 (upd P.1 x2.toNatClampNeg 1, g_82, P.2.2.1, P.2.2.2.1, P.2.2.2.2)) H := vz_reP (hW_P_judge_153 cI cZ cQ u0 u1 u2 u3 u4 u5 u6 u7 u8 p0 p1 h0 a1 a2 a3 a4 L (P.1, g_82, P.2.2.1, P.2.2.2.1, P.2.2.2.2) (upd P.1 x2.toNatClampNeg 1)) hP
        have hD : va_D (vz_A (wL cI cZ u0 u1 u2 u3 u4 u5 u6 u7 u8 L ++ wP cI cZ p0 p1 h0 a1 a2 a3 a4 P)) (wL cI cZ u0 u1 u2 u3 u4 u5 u6 u7 u8 L ++ wP cI cZ p0 p1 h0 a1 a2 a3 a4 (upd P.1 x2.toNatClampNeg 1, g_82, P.2.2.1, P.2.2.2.1, P.2.2.2.2)) := vz_reD (hW_P_judge_153 cI cZ cQ u0 u1 u2 u3 u4 u5 u6 u7 u8 p0 p1 h0 a1 a2 a3 a4 L (P.1, g_82, P.2.2.1, P.2.2.2.1, P.2.2.2.2) (upd P.1 x2.toNatClampNeg 1)) hD
        rw [m_P_judge, if_pos c_7, if_pos c_47_0] at hres
        try rw [hg_82] at hres
        rw [if_neg c_145] at hres
        subst hres
        subst hQ
        exact vz_vret hx hb hr hlocks d_P_judge_154 hS rfl hP
    · by_cases c_47_1 : (L.1 x2.toNatClampNeg) = 1
      · refine lv_tableIn (off := 41) (tgt := 88) hx hb d_P_judge_47 (by rw [c_47_1]; decide) (by rw [c_47_1]; decide) (by rw [c_47_1]; decide) (by decide) ?_
        refine lv_aload_n hx hb d_P_judge_88 rfl (lv_at hl 2 rfl) ?_
        refine va_get (D := (dC, dI)) (ci := 2) (v := .ref h0) (C := R_P) (T := F_P) (N := 5) hx hb hT i_P hown hK hP 9 rfl rfl 1 (by decide) (hT _ kw_109) (fun _ h9 => h9) rfl d_P_judge_89 ?_
        refine lv_iload hx hb d_P_judge_92 (lv_at hl 0 rfl) ?_
        refine lv_aload_n hx hb d_P_judge_94 rfl (lv_at hl 3 rfl) ?_
        refine va_get (D := (dC, dI)) (ci := 1) (v := .ref u5) (C := R_L) (T := F_L) (N := 10) hx hb hT i_L hown hK hP 0 rfl rfl 4 (by decide) (hT _ kw_33) (fun _ h9 => h9) rfl d_P_judge_95 ?_
        refine lv_iload_n hx hb d_P_judge_98 rfl (lv_at hl 4 rfl) ?_
        refine va_iald hx hb hK hP 5 0 rfl rfl (ti_vp (by omega) (by omega)) d_P_judge_99 ?_
        refine lv_aload_n hx hb d_P_judge_100 rfl (lv_at hl 3 rfl) ?_
        refine va_get (D := (dC, dI)) (ci := 1) (v := .ref u6) (C := R_L) (T := F_L) (N := 10) hx hb hT i_L hown hK hP 0 rfl rfl 5 (by decide) (hT _ kw_36) (fun _ h9 => h9) rfl d_P_judge_101 ?_
        refine lv_iload_n hx hb d_P_judge_104 rfl (lv_at hl 4 rfl) ?_
        refine va_iald hx hb hK hP 6 0 rfl rfl (ti_vp (by omega) (by omega)) d_P_judge_105 ?_
        have hc := c_T_moveTo l dC dI cI cZ cQ h0 a1 a2 a3 a4 P.2.1 (L.2.2.2.1 x2.toNatClampNeg) (L.2.2.2.2.1 x2.toNatClampNeg) (L.2.2.2.2.2.1 x2.toNatClampNeg) (hok) (by have := hrow.2.2.1 (by rw [c_47_1]; decide); omega) (hrow.2.2.2.1 c_47_1)
        generalize hg_106 : (m_T_moveTo P.2.1 (L.2.2.2.1 x2.toNatClampNeg) (L.2.2.2.2.1 x2.toNatClampNeg) (L.2.2.2.2.2.1 x2.toNatClampNeg)) = g_106 at hc
        refine vz_callV (As := [.int (L.2.2.2.1 x2.toNatClampNeg), .int (L.2.2.2.2.1 x2.toNatClampNeg), .int (L.2.2.2.2.2.1 x2.toNatClampNeg)]) (rest := []) ⟨hx, hb, hml, hown, hT⟩ hc (vz_goodV kw_189 kw_190 kw_191 kw_4 kw_192) ⟨rfl, hd_T_moveTo⟩ ⟨⟨rfl, rfl⟩, Nat.le_of_ble_eq_true rfl, Nat.le_of_ble_eq_true rfl⟩ hK hP hD hS [11, 12, 13, 14, 15] rfl (hC_P_judge_106 cI cZ cQ u0 u1 u2 u3 u4 u5 u6 u7 u8 p0 p1 h0 a1 a2 a3 a4 L P) (hF_T_moveTo cI cZ cQ _ _) 0 0 rfl rfl rfl rfl hl.1 rfl (Nat.le_of_ble_eq_true rfl) ⟨Nat.zero_le _, Nat.zero_le _⟩ d_P_judge_106 (fun H locs hP hD hS => ?_)
        have hP : va_P (dC, dI) classes (wL cI cZ u0 u1 u2 u3 u4 u5 u6 u7 u8 L ++ wP cI cZ p0 p1 h0 a1 a2 a3 a4 (P.1, g_106.2, P.2.2.1, P.2.2.2.1, P.2.2.2.2)) H := vz_reP (hU_P_judge_106 cI cZ cQ u0 u1 u2 u3 u4 u5 u6 u7 u8 p0 p1 h0 a1 a2 a3 a4 L P g_106.2) hP
        have hD : va_D (vz_A (wL cI cZ u0 u1 u2 u3 u4 u5 u6 u7 u8 L ++ wP cI cZ p0 p1 h0 a1 a2 a3 a4 P)) (wL cI cZ u0 u1 u2 u3 u4 u5 u6 u7 u8 L ++ wP cI cZ p0 p1 h0 a1 a2 a3 a4 (P.1, g_106.2, P.2.2.1, P.2.2.2.1, P.2.2.2.2)) := vz_reD (hU_P_judge_106 cI cZ cQ u0 u1 u2 u3 u4 u5 u6 u7 u8 p0 p1 h0 a1 a2 a3 a4 L P g_106.2) hD
        refine W.eq (g2 := F0 m 109 ls [.int g_106.1]) rfl ?_
        refine lv_istore_n (lv' := [(3, .int g_106.1), (4, .int (L.2.2.2.1 x2.toNatClampNeg)), (0, .ref p0), (1, .ref u0), (2, .int x2)]) hx hb d_P_judge_109 rfl hl (by decide) rfl (fun ls hl => ?_)
        refine lv_goto (tgt := 139) hx hb d_P_judge_110 (by decide) ?_
        refine lv_aload_n hx hb d_P_judge_139 rfl (lv_at hl 2 rfl) ?_
        refine va_get (D := (dC, dI)) (ci := 2) (v := .ref p1) (C := R_P) (T := F_P) (N := 5) hx hb hT i_P hown hK hP 9 rfl rfl 0 (by decide) (hT _ kw_107) (fun _ h9 => h9) rfl d_P_judge_140 ?_
        refine lv_iload_n hx hb d_P_judge_143 rfl (lv_at hl 4 rfl) ?_
        refine lv_iload_n hx hb d_P_judge_144 rfl (lv_at hl 0 rfl) ?_
        refine lv_if_eq (tgt := 152) hx hb d_P_judge_145 (by decide) (fun c_145 => ?_) (fun c_145 => ?_)
        · have z_145 : g_106.1.toInt = (0 : Int32).toInt := congrArg Int32.toInt c_145
          refine lv_iconst (v := 2) hx hb d_P_judge_152 (by decide) ?_
          refine va_iast hx hb hK hP hD hS 10 0 rfl rfl (ti_vp (by omega) (by omega)) d_P_judge_153 (fun H locs hP hD hS => ?_)
          have hP : va_P (dC, dI) classes (wL cI cZ u0 u1 u2 u3 u4 u5 u6 u7 u8 L ++ wP cI cZ p0 p1 h0 a1 a2 a3 a4 (upd P.1 x2.toNatClampNeg 2, g_106.2, P.2.2.1, P.2.2.2.1, P.2.2.2.2)) H := vz_reP (hW_P_judge_153 cI cZ cQ u0 u1 u2 u3 u4 u5 u6 u7 u8 p0 p1 h0 a1 a2 a3 a4 L (P.1, g_106.2, P.2.2.1, P.2.2.2.1, P.2.2.2.2) (upd P.1 x2.toNatClampNeg 2)) hP
          have hD : va_D (vz_A (wL cI cZ u0 u1 u2 u3 u4 u5 u6 u7 u8 L ++ wP cI cZ p0 p1 h0 a1 a2 a3 a4 P)) (wL cI cZ u0 u1 u2 u3 u4 u5 u6 u7 u8 L ++ wP cI cZ p0 p1 h0 a1 a2 a3 a4 (upd P.1 x2.toNatClampNeg 2, g_106.2, P.2.2.1, P.2.2.2.1, P.2.2.2.2)) := vz_reD (hW_P_judge_153 cI cZ cQ u0 u1 u2 u3 u4 u5 u6 u7 u8 p0 p1 h0 a1 a2 a3 a4 L (P.1, g_106.2, P.2.2.1, P.2.2.2.1, P.2.2.2.2) (upd P.1 x2.toNatClampNeg 2)) hD
          rw [m_P_judge, if_pos c_7, if_neg c_47_0, if_pos c_47_1] at hres
          try rw [hg_106] at hres
          rw [if_pos c_145] at hres
          subst hres
          subst hQ
          exact vz_vret hx hb hr hlocks d_P_judge_154 hS rfl hP
        · have z_145 : ¬ g_106.1.toInt = (0 : Int32).toInt := mt Int32.toInt_inj.mp c_145
          refine lv_iconst (v := 1) hx hb d_P_judge_148 (by decide) ?_
          refine lv_goto (tgt := 153) hx hb d_P_judge_149 (by decide) ?_
          refine va_iast hx hb hK hP hD hS 10 0 rfl rfl (ti_vp (by omega) (by omega)) d_P_judge_153 (fun H locs hP hD hS => ?_)
          have hP : va_P (dC, dI) classes (wL cI cZ u0 u1 u2 u3 u4 u5 u6 u7 u8 L ++ wP cI cZ p0 p1 h0 a1 a2 a3 a4 (upd P.1 x2.toNatClampNeg 1, g_106.2, P.2.2.1, P.2.2.2.1, P.2.2.2.2)) H := vz_reP (hW_P_judge_153 cI cZ cQ u0 u1 u2 u3 u4 u5 u6 u7 u8 p0 p1 h0 a1 a2 a3 a4 L (P.1, g_106.2, P.2.2.1, P.2.2.2.1, P.2.2.2.2) (upd P.1 x2.toNatClampNeg 1)) hP
          have hD : va_D (vz_A (wL cI cZ u0 u1 u2 u3 u4 u5 u6 u7 u8 L ++ wP cI cZ p0 p1 h0 a1 a2 a3 a4 P)) (wL cI cZ u0 u1 u2 u3 u4 u5 u6 u7 u8 L ++ wP cI cZ p0 p1 h0 a1 a2 a3 a4 (upd P.1 x2.toNatClampNeg 1, g_106.2, P.2.2.1, P.2.2.2.1, P.2.2.2.2)) := vz_reD (hW_P_judge_153 cI cZ cQ u0 u1 u2 u3 u4 u5 u6 u7 u8 p0 p1 h0 a1 a2 a3 a4 L (P.1, g_106.2, P.2.2.1, P.2.2.2.1, P.2.2.2.2) (upd P.1 x2.toNatClampNeg 1)) hD
          rw [m_P_judge, if_pos c_7, if_neg c_47_0, if_pos c_47_1] at hres
          try rw [hg_106] at hres
          rw [if_neg c_145] at hres
          subst hres
          subst hQ
          exact vz_vret hx hb hr hlocks d_P_judge_154 hS rfl hP
      · by_cases c_47_2 : (L.1 x2.toNatClampNeg) = 2
        · refine lv_tableIn (off := 66) (tgt := 113) hx hb d_P_judge_47 (by rw [c_47_2]; decide) (by rw [c_47_2]; decide) (by rw [c_47_2]; decide) (by decide) ?_
          refine lv_aload_n hx hb d_P_judge_113 rfl (lv_at hl 2 rfl) ?_
          refine va_get (D := (dC, dI)) (ci := 2) (v := .ref h0) (C := R_P) (T := F_P) (N := 5) hx hb hT i_P hown hK hP 9 rfl rfl 1 (by decide) (hT _ kw_109) (fun _ h9 => h9) rfl d_P_judge_114 ?_
          refine lv_iload hx hb d_P_judge_117 (lv_at hl 0 rfl) ?_
          have hc := c_T_throwAway l dC dI cI cZ cQ h0 a1 a2 a3 a4 P.2.1 (L.2.2.2.1 x2.toNatClampNeg) (hok) (by have := hrow.2.2.1 (by rw [c_47_2]; decide); omega)
          generalize hg_119 : (m_T_throwAway P.2.1 (L.2.2.2.1 x2.toNatClampNeg)) = g_119 at hc
          refine vz_callV (As := [.int (L.2.2.2.1 x2.toNatClampNeg)]) (rest := []) ⟨hx, hb, hml, hown, hT⟩ hc (vz_goodV kw_209 kw_210 kw_211 kw_4 kw_212) ⟨rfl, hd_T_throwAway⟩ ⟨⟨rfl, rfl⟩, Nat.le_of_ble_eq_true rfl, Nat.le_of_ble_eq_true rfl⟩ hK hP hD hS [11, 12, 13, 14, 15] rfl (hC_P_judge_119 cI cZ cQ u0 u1 u2 u3 u4 u5 u6 u7 u8 p0 p1 h0 a1 a2 a3 a4 L P) (hF_T_throwAway cI cZ cQ _ _) 0 0 rfl rfl rfl rfl hl.1 rfl (Nat.le_of_ble_eq_true rfl) ⟨Nat.zero_le _, Nat.zero_le _⟩ d_P_judge_119 (fun H locs hP hD hS => ?_)
          have hP : va_P (dC, dI) classes (wL cI cZ u0 u1 u2 u3 u4 u5 u6 u7 u8 L ++ wP cI cZ p0 p1 h0 a1 a2 a3 a4 (P.1, g_119.2, P.2.2.1, P.2.2.2.1, P.2.2.2.2)) H := vz_reP (hU_P_judge_119 cI cZ cQ u0 u1 u2 u3 u4 u5 u6 u7 u8 p0 p1 h0 a1 a2 a3 a4 L P g_119.2) hP
          have hD : va_D (vz_A (wL cI cZ u0 u1 u2 u3 u4 u5 u6 u7 u8 L ++ wP cI cZ p0 p1 h0 a1 a2 a3 a4 P)) (wL cI cZ u0 u1 u2 u3 u4 u5 u6 u7 u8 L ++ wP cI cZ p0 p1 h0 a1 a2 a3 a4 (P.1, g_119.2, P.2.2.1, P.2.2.2.1, P.2.2.2.2)) := vz_reD (hU_P_judge_119 cI cZ cQ u0 u1 u2 u3 u4 u5 u6 u7 u8 p0 p1 h0 a1 a2 a3 a4 L P g_119.2) hD
          refine W.eq (g2 := F0 m 122 ls [.int g_119.1]) rfl ?_
          refine lv_istore_n (lv' := [(3, .int g_119.1), (4, .int (L.2.2.2.1 x2.toNatClampNeg)), (0, .ref p0), (1, .ref u0), (2, .int x2)]) hx hb d_P_judge_122 rfl hl (by decide) rfl (fun ls hl => ?_)
          refine lv_goto (tgt := 139) hx hb d_P_judge_123 (by decide) ?_
          refine lv_aload_n hx hb d_P_judge_139 rfl (lv_at hl 2 rfl) ?_
          refine va_get (D := (dC, dI)) (ci := 2) (v := .ref p1) (C := R_P) (T := F_P) (N := 5) hx hb hT i_P hown hK hP 9 rfl rfl 0 (by decide) (hT _ kw_107) (fun _ h9 => h9) rfl d_P_judge_140 ?_
          refine lv_iload_n hx hb d_P_judge_143 rfl (lv_at hl 4 rfl) ?_
          refine lv_iload_n hx hb d_P_judge_144 rfl (lv_at hl 0 rfl) ?_
          refine lv_if_eq (tgt := 152) hx hb d_P_judge_145 (by decide) (fun c_145 => ?_) (fun c_145 => ?_)
          · have z_145 : g_119.1.toInt = (0 : Int32).toInt := congrArg Int32.toInt c_145
            refine lv_iconst (v := 2) hx hb d_P_judge_152 (by decide) ?_
            refine va_iast hx hb hK hP hD hS 10 0 rfl rfl (ti_vp (by omega) (by omega)) d_P_judge_153 (fun H locs hP hD hS => ?_)
            have hP : va_P (dC, dI) classes (wL cI cZ u0 u1 u2 u3 u4 u5 u6 u7 u8 L ++ wP cI cZ p0 p1 h0 a1 a2 a3 a4 (upd P.1 x2.toNatClampNeg 2, g_119.2, P.2.2.1, P.2.2.2.1, P.2.2.2.2)) H := vz_reP (hW_P_judge_153 cI cZ cQ u0 u1 u2 u3 u4 u5 u6 u7 u8 p0 p1 h0 a1 a2 a3 a4 L (P.1, g_119.2, P.2.2.1, P.2.2.2.1, P.2.2.2.2) (upd P.1 x2.toNatClampNeg 2)) hP
            have hD : va_D (vz_A (wL cI cZ u0 u1 u2 u3 u4 u5 u6 u7 u8 L ++ wP cI cZ p0 p1 h0 a1 a2 a3 a4 P)) (wL cI cZ u0 u1 u2 u3 u4 u5 u6 u7 u8 L ++ wP cI cZ p0 p1 h0 a1 a2 a3 a4 (upd P.1 x2.toNatClampNeg 2, g_119.2, P.2.2.1, P.2.2.2.1, P.2.2.2.2)) := vz_reD (hW_P_judge_153 cI cZ cQ u0 u1 u2 u3 u4 u5 u6 u7 u8 p0 p1 h0 a1 a2 a3 a4 L (P.1, g_119.2, P.2.2.1, P.2.2.2.1, P.2.2.2.2) (upd P.1 x2.toNatClampNeg 2)) hD
            rw [m_P_judge, if_pos c_7, if_neg c_47_0, if_neg c_47_1, if_pos c_47_2] at hres
            try rw [hg_119] at hres
            rw [if_pos c_145] at hres
            subst hres
            subst hQ
            exact vz_vret hx hb hr hlocks d_P_judge_154 hS rfl hP
          · have z_145 : ¬ g_119.1.toInt = (0 : Int32).toInt := mt Int32.toInt_inj.mp c_145
            refine lv_iconst (v := 1) hx hb d_P_judge_148 (by decide) ?_
            refine lv_goto (tgt := 153) hx hb d_P_judge_149 (by decide) ?_
            refine va_iast hx hb hK hP hD hS 10 0 rfl rfl (ti_vp (by omega) (by omega)) d_P_judge_153 (fun H locs hP hD hS => ?_)
            have hP : va_P (dC, dI) classes (wL cI cZ u0 u1 u2 u3 u4 u5 u6 u7 u8 L ++ wP cI cZ p0 p1 h0 a1 a2 a3 a4 (upd P.1 x2.toNatClampNeg 1, g_119.2, P.2.2.1, P.2.2.2.1, P.2.2.2.2)) H := vz_reP (hW_P_judge_153 cI cZ cQ u0 u1 u2 u3 u4 u5 u6 u7 u8 p0 p1 h0 a1 a2 a3 a4 L (P.1, g_119.2, P.2.2.1, P.2.2.2.1, P.2.2.2.2) (upd P.1 x2.toNatClampNeg 1)) hP
            have hD : va_D (vz_A (wL cI cZ u0 u1 u2 u3 u4 u5 u6 u7 u8 L ++ wP cI cZ p0 p1 h0 a1 a2 a3 a4 P)) (wL cI cZ u0 u1 u2 u3 u4 u5 u6 u7 u8 L ++ wP cI cZ p0 p1 h0 a1 a2 a3 a4 (upd P.1 x2.toNatClampNeg 1, g_119.2, P.2.2.1, P.2.2.2.1, P.2.2.2.2)) := vz_reD (hW_P_judge_153 cI cZ cQ u0 u1 u2 u3 u4 u5 u6 u7 u8 p0 p1 h0 a1 a2 a3 a4 L (P.1, g_119.2, P.2.2.1, P.2.2.2.1, P.2.2.2.2) (upd P.1 x2.toNatClampNeg 1)) hD
            rw [m_P_judge, if_pos c_7, if_neg c_47_0, if_neg c_47_1, if_pos c_47_2] at hres
            try rw [hg_119] at hres
            rw [if_neg c_145] at hres
            subst hres
            subst hQ
            exact vz_vret hx hb hr hlocks d_P_judge_154 hS rfl hP
        · by_cases c_47_3 : (L.1 x2.toNatClampNeg) = 3
          · refine lv_tableIn (off := 79) (tgt := 126) hx hb d_P_judge_47 (by rw [c_47_3]; decide) (by rw [c_47_3]; decide) (by rw [c_47_3]; decide) (by decide) ?_
            refine lv_aload_n hx hb d_P_judge_126 rfl (lv_at hl 2 rfl) ?_
            refine va_get (D := (dC, dI)) (ci := 2) (v := .ref h0) (C := R_P) (T := F_P) (N := 5) hx hb hT i_P hown hK hP 9 rfl rfl 1 (by decide) (hT _ kw_109) (fun _ h9 => h9) rfl d_P_judge_127 ?_
            refine lv_iload hx hb d_P_judge_130 (lv_at hl 0 rfl) ?_
            have hc := c_T_bringBack l dC dI cI cZ cQ h0 a1 a2 a3 a4 P.2.1 (L.2.2.2.1 x2.toNatClampNeg) (hok) (by have := hrow.2.2.1 (by rw [c_47_3]; decide); omega)
            generalize hg_132 : (m_T_bringBack P.2.1 (L.2.2.2.1 x2.toNatClampNeg)) = g_132 at hc
            refine vz_callV (As := [.int (L.2.2.2.1 x2.toNatClampNeg)]) (rest := []) ⟨hx, hb, hml, hown, hT⟩ hc (vz_goodV kw_213 kw_214 kw_215 kw_4 kw_216) ⟨rfl, hd_T_bringBack⟩ ⟨⟨rfl, rfl⟩, Nat.le_of_ble_eq_true rfl, Nat.le_of_ble_eq_true rfl⟩ hK hP hD hS [11, 12, 13, 14, 15] rfl (hC_P_judge_132 cI cZ cQ u0 u1 u2 u3 u4 u5 u6 u7 u8 p0 p1 h0 a1 a2 a3 a4 L P) (hF_T_bringBack cI cZ cQ _ _) 0 0 rfl rfl rfl rfl hl.1 rfl (Nat.le_of_ble_eq_true rfl) ⟨Nat.zero_le _, Nat.zero_le _⟩ d_P_judge_132 (fun H locs hP hD hS => ?_)
            have hP : va_P (dC, dI) classes (wL cI cZ u0 u1 u2 u3 u4 u5 u6 u7 u8 L ++ wP cI cZ p0 p1 h0 a1 a2 a3 a4 (P.1, g_132.2, P.2.2.1, P.2.2.2.1, P.2.2.2.2)) H := vz_reP (hU_P_judge_132 cI cZ cQ u0 u1 u2 u3 u4 u5 u6 u7 u8 p0 p1 h0 a1 a2 a3 a4 L P g_132.2) hP
            have hD : va_D (vz_A (wL cI cZ u0 u1 u2 u3 u4 u5 u6 u7 u8 L ++ wP cI cZ p0 p1 h0 a1 a2 a3 a4 P)) (wL cI cZ u0 u1 u2 u3 u4 u5 u6 u7 u8 L ++ wP cI cZ p0 p1 h0 a1 a2 a3 a4 (P.1, g_132.2, P.2.2.1, P.2.2.2.1, P.2.2.2.2)) := vz_reD (hU_P_judge_132 cI cZ cQ u0 u1 u2 u3 u4 u5 u6 u7 u8 p0 p1 h0 a1 a2 a3 a4 L P g_132.2) hD
            refine W.eq (g2 := F0 m 135 ls [.int g_132.1]) rfl ?_
            refine lv_istore_n (lv' := [(3, .int g_132.1), (4, .int (L.2.2.2.1 x2.toNatClampNeg)), (0, .ref p0), (1, .ref u0), (2, .int x2)]) hx hb d_P_judge_135 rfl hl (by decide) rfl (fun ls hl => ?_)
            refine lv_goto (tgt := 139) hx hb d_P_judge_136 (by decide) ?_
            refine lv_aload_n hx hb d_P_judge_139 rfl (lv_at hl 2 rfl) ?_
            refine va_get (D := (dC, dI)) (ci := 2) (v := .ref p1) (C := R_P) (T := F_P) (N := 5) hx hb hT i_P hown hK hP 9 rfl rfl 0 (by decide) (hT _ kw_107) (fun _ h9 => h9) rfl d_P_judge_140 ?_
            refine lv_iload_n hx hb d_P_judge_143 rfl (lv_at hl 4 rfl) ?_
            refine lv_iload_n hx hb d_P_judge_144 rfl (lv_at hl 0 rfl) ?_
            refine lv_if_eq (tgt := 152) hx hb d_P_judge_145 (by decide) (fun c_145 => ?_) (fun c_145 => ?_)
            · have z_145 : g_132.1.toInt = (0 : Int32).toInt := congrArg Int32.toInt c_145
              refine lv_iconst (v := 2) hx hb d_P_judge_152 (by decide) ?_
              refine va_iast hx hb hK hP hD hS 10 0 rfl rfl (ti_vp (by omega) (by omega)) d_P_judge_153 (fun H locs hP hD hS => ?_)
              have hP : va_P (dC, dI) classes (wL cI cZ u0 u1 u2 u3 u4 u5 u6 u7 u8 L ++ wP cI cZ p0 p1 h0 a1 a2 a3 a4 (upd P.1 x2.toNatClampNeg 2, g_132.2, P.2.2.1, P.2.2.2.1, P.2.2.2.2)) H := vz_reP (hW_P_judge_153 cI cZ cQ u0 u1 u2 u3 u4 u5 u6 u7 u8 p0 p1 h0 a1 a2 a3 a4 L (P.1, g_132.2, P.2.2.1, P.2.2.2.1, P.2.2.2.2) (upd P.1 x2.toNatClampNeg 2)) hP
              have hD : va_D (vz_A (wL cI cZ u0 u1 u2 u3 u4 u5 u6 u7 u8 L ++ wP cI cZ p0 p1 h0 a1 a2 a3 a4 P)) (wL cI cZ u0 u1 u2 u3 u4 u5 u6 u7 u8 L ++ wP cI cZ p0 p1 h0 a1 a2 a3 a4 (upd P.1 x2.toNatClampNeg 2, g_132.2, P.2.2.1, P.2.2.2.1, P.2.2.2.2)) := vz_reD (hW_P_judge_153 cI cZ cQ u0 u1 u2 u3 u4 u5 u6 u7 u8 p0 p1 h0 a1 a2 a3 a4 L (P.1, g_132.2, P.2.2.1, P.2.2.2.1, P.2.2.2.2) (upd P.1 x2.toNatClampNeg 2)) hD
              rw [m_P_judge, if_pos c_7, if_neg c_47_0, if_neg c_47_1, if_neg c_47_2, if_pos c_47_3] at hres
              try rw [hg_132] at hres
              rw [if_pos c_145] at hres
              subst hres
              subst hQ
              exact vz_vret hx hb hr hlocks d_P_judge_154 hS rfl hP
            · have z_145 : ¬ g_132.1.toInt = (0 : Int32).toInt := mt Int32.toInt_inj.mp c_145
              refine lv_iconst (v := 1) hx hb d_P_judge_148 (by decide) ?_
              refine lv_goto (tgt := 153) hx hb d_P_judge_149 (by decide) ?_
              refine va_iast hx hb hK hP hD hS 10 0 rfl rfl (ti_vp (by omega) (by omega)) d_P_judge_153 (fun H locs hP hD hS => ?_)
              have hP : va_P (dC, dI) classes (wL cI cZ u0 u1 u2 u3 u4 u5 u6 u7 u8 L ++ wP cI cZ p0 p1 h0 a1 a2 a3 a4 (upd P.1 x2.toNatClampNeg 1, g_132.2, P.2.2.1, P.2.2.2.1, P.2.2.2.2)) H := vz_reP (hW_P_judge_153 cI cZ cQ u0 u1 u2 u3 u4 u5 u6 u7 u8 p0 p1 h0 a1 a2 a3 a4 L (P.1, g_132.2, P.2.2.1, P.2.2.2.1, P.2.2.2.2) (upd P.1 x2.toNatClampNeg 1)) hP
              have hD : va_D (vz_A (wL cI cZ u0 u1 u2 u3 u4 u5 u6 u7 u8 L ++ wP cI cZ p0 p1 h0 a1 a2 a3 a4 P)) (wL cI cZ u0 u1 u2 u3 u4 u5 u6 u7 u8 L ++ wP cI cZ p0 p1 h0 a1 a2 a3 a4 (upd P.1 x2.toNatClampNeg 1, g_132.2, P.2.2.1, P.2.2.2.1, P.2.2.2.2)) := vz_reD (hW_P_judge_153 cI cZ cQ u0 u1 u2 u3 u4 u5 u6 u7 u8 p0 p1 h0 a1 a2 a3 a4 L (P.1, g_132.2, P.2.2.1, P.2.2.2.1, P.2.2.2.2) (upd P.1 x2.toNatClampNeg 1)) hD
              rw [m_P_judge, if_pos c_7, if_neg c_47_0, if_neg c_47_1, if_neg c_47_2, if_pos c_47_3] at hres
              try rw [hg_132] at hres
              rw [if_neg c_145] at hres
              subst hres
              subst hQ
              exact vz_vret hx hb hr hlocks d_P_judge_154 hS rfl hP
          · refine lv_tableOut (tgt := 139) hx hb d_P_judge_47 (by have h0 := lv_neT c_47_0 (by decide : (0 : Int32).toInt = 0); have h1 := lv_neT c_47_1 (by decide : (1 : Int32).toInt = 1); have h2 := lv_neT c_47_2 (by decide : (2 : Int32).toInt = 2); have h3 := lv_neT c_47_3 (by decide : (3 : Int32).toInt = 3); omega) (by decide) ?_
            refine lv_aload_n hx hb d_P_judge_139 rfl (lv_at hl 2 rfl) ?_
            refine va_get (D := (dC, dI)) (ci := 2) (v := .ref p1) (C := R_P) (T := F_P) (N := 5) hx hb hT i_P hown hK hP 9 rfl rfl 0 (by decide) (hT _ kw_107) (fun _ h9 => h9) rfl d_P_judge_140 ?_
            refine lv_iload_n hx hb d_P_judge_143 rfl (lv_at hl 4 rfl) ?_
            refine lv_iload_n hx hb d_P_judge_144 rfl (lv_at hl 1 rfl) ?_
            refine lv_if_eq (tgt := 152) hx hb d_P_judge_145 (by decide) (fun c_145 => ?_) (fun c_145 => ?_)
            · have z_145 : (1 : Int32).toInt = (0 : Int32).toInt := congrArg Int32.toInt c_145
              refine lv_iconst (v := 2) hx hb d_P_judge_152 (by decide) ?_
              refine va_iast hx hb hK hP hD hS 10 0 rfl rfl (ti_vp (by omega) (by omega)) d_P_judge_153 (fun H locs hP hD hS => ?_)
              have hP : va_P (dC, dI) classes (wL cI cZ u0 u1 u2 u3 u4 u5 u6 u7 u8 L ++ wP cI cZ p0 p1 h0 a1 a2 a3 a4 (upd P.1 x2.toNatClampNeg 2, P.2.1, P.2.2.1, P.2.2.2.1, P.2.2.2.2)) H := vz_reP (hW_P_judge_153 cI cZ cQ u0 u1 u2 u3 u4 u5 u6 u7 u8 p0 p1 h0 a1 a2 a3 a4 L P (upd P.1 x2.toNatClampNeg 2)) hP
              have hD : va_D (vz_A (wL cI cZ u0 u1 u2 u3 u4 u5 u6 u7 u8 L ++ wP cI cZ p0 p1 h0 a1 a2 a3 a4 P)) (wL cI cZ u0 u1 u2 u3 u4 u5 u6 u7 u8 L ++ wP cI cZ p0 p1 h0 a1 a2 a3 a4 (upd P.1 x2.toNatClampNeg 2, P.2.1, P.2.2.1, P.2.2.2.1, P.2.2.2.2)) := vz_reD (hW_P_judge_153 cI cZ cQ u0 u1 u2 u3 u4 u5 u6 u7 u8 p0 p1 h0 a1 a2 a3 a4 L P (upd P.1 x2.toNatClampNeg 2)) hD
              rw [m_P_judge, if_pos c_7, if_neg c_47_0, if_neg c_47_1, if_neg c_47_2, if_neg c_47_3, if_pos c_145] at hres
              subst hres
              subst hQ
              exact vz_vret hx hb hr hlocks d_P_judge_154 hS rfl hP
            · have z_145 : ¬ (1 : Int32).toInt = (0 : Int32).toInt := mt Int32.toInt_inj.mp c_145
              refine lv_iconst (v := 1) hx hb d_P_judge_148 (by decide) ?_
              refine lv_goto (tgt := 153) hx hb d_P_judge_149 (by decide) ?_
              refine va_iast hx hb hK hP hD hS 10 0 rfl rfl (ti_vp (by omega) (by omega)) d_P_judge_153 (fun H locs hP hD hS => ?_)
              have hP : va_P (dC, dI) classes (wL cI cZ u0 u1 u2 u3 u4 u5 u6 u7 u8 L ++ wP cI cZ p0 p1 h0 a1 a2 a3 a4 (upd P.1 x2.toNatClampNeg 1, P.2.1, P.2.2.1, P.2.2.2.1, P.2.2.2.2)) H := vz_reP (hW_P_judge_153 cI cZ cQ u0 u1 u2 u3 u4 u5 u6 u7 u8 p0 p1 h0 a1 a2 a3 a4 L P (upd P.1 x2.toNatClampNeg 1)) hP
              have hD : va_D (vz_A (wL cI cZ u0 u1 u2 u3 u4 u5 u6 u7 u8 L ++ wP cI cZ p0 p1 h0 a1 a2 a3 a4 P)) (wL cI cZ u0 u1 u2 u3 u4 u5 u6 u7 u8 L ++ wP cI cZ p0 p1 h0 a1 a2 a3 a4 (upd P.1 x2.toNatClampNeg 1, P.2.1, P.2.2.1, P.2.2.2.1, P.2.2.2.2)) := vz_reD (hW_P_judge_153 cI cZ cQ u0 u1 u2 u3 u4 u5 u6 u7 u8 p0 p1 h0 a1 a2 a3 a4 L P (upd P.1 x2.toNatClampNeg 1)) hD
              rw [m_P_judge, if_pos c_7, if_neg c_47_0, if_neg c_47_1, if_neg c_47_2, if_neg c_47_3, if_neg c_145] at hres
              subst hres
              subst hQ
              exact vz_vret hx hb hr hlocks d_P_judge_154 hS rfl hP
  · have z_7 : ¬ (L.1 x2.toNatClampNeg).toInt = (4 : Int32).toInt := mt Int32.toInt_inj.mp c_7
    refine lv_aload_n hx hb d_P_judge_10 rfl (lv_at hl 0 rfl) ?_
    refine lv_aload_n hx hb d_P_judge_11 rfl (lv_at hl 1 rfl) ?_
    refine va_get (D := (dC, dI)) (ci := 1) (v := .ref u7) (C := R_L) (T := F_L) (N := 10) hx hb hT i_L hown hK hP 0 rfl rfl 6 (by decide) (hT _ kw_39) (fun _ h9 => h9) rfl d_P_judge_12 ?_
    refine lv_iload_n hx hb d_P_judge_15 rfl (lv_at hl 2 rfl) ?_
    refine va_iald hx hb hK hP 7 0 rfl rfl (ti_vp (by omega) (by omega)) d_P_judge_16 ?_
    have hc := c_P_knows l dC dI cI cZ cQ p0 p1 h0 a1 a2 a3 a4 P (L.2.2.2.2.2.2.1 x2.toNatClampNeg) (hrow.2.1)
    generalize hg_17 : (m_P_knows P (L.2.2.2.2.2.2.1 x2.toNatClampNeg)) = g_17 at hc
    refine vz_callV (As := [.int (L.2.2.2.2.2.2.1 x2.toNatClampNeg)]) (rest := []) ⟨hx, hb, hml, hown, hT⟩ hc (vz_goodV kw_173 kw_174 kw_175 kw_3 kw_176) ⟨rfl, hd_P_knows⟩ ⟨⟨rfl, rfl⟩, Nat.le_of_ble_eq_true rfl, Nat.le_of_ble_eq_true rfl⟩ hK hP hD hS [9, 10, 11, 12, 13, 14, 15] rfl (hC_P_judge_17 cI cZ cQ u0 u1 u2 u3 u4 u5 u6 u7 u8 p0 p1 h0 a1 a2 a3 a4 L P) (hF_P_knows cI cZ cQ _ _) 0 2 rfl rfl rfl rfl hl.1 rfl (Nat.le_of_ble_eq_true rfl) ⟨Nat.zero_le _, Nat.zero_le _⟩ d_P_judge_17 (fun H locs hP hD hS => ?_)
    have hP : va_P (dC, dI) classes (wL cI cZ u0 u1 u2 u3 u4 u5 u6 u7 u8 L ++ wP cI cZ p0 p1 h0 a1 a2 a3 a4 P) H := vz_reP (hU_P_judge_17 cI cZ cQ u0 u1 u2 u3 u4 u5 u6 u7 u8 p0 p1 h0 a1 a2 a3 a4 L P ) hP
    have hD : va_D (vz_A (wL cI cZ u0 u1 u2 u3 u4 u5 u6 u7 u8 L ++ wP cI cZ p0 p1 h0 a1 a2 a3 a4 P)) (wL cI cZ u0 u1 u2 u3 u4 u5 u6 u7 u8 L ++ wP cI cZ p0 p1 h0 a1 a2 a3 a4 P) := vz_reD (hU_P_judge_17 cI cZ cQ u0 u1 u2 u3 u4 u5 u6 u7 u8 p0 p1 h0 a1 a2 a3 a4 L P ) hD
    refine W.eq (g2 := F0 m 20 ls [.int g_17]) rfl ?_
    refine lv_if_eq (tgt := 31) hx hb d_P_judge_20 (by decide) (fun c_20 => ?_) (fun c_20 => ?_)
    · have z_20 : g_17.toInt = (0 : Int32).toInt := congrArg Int32.toInt c_20
      refine lv_iconst (v := 1) hx hb d_P_judge_31 (by decide) ?_
      refine lv_istore_n (lv' := [(3, .int 1), (0, .ref p0), (1, .ref u0), (2, .int x2)]) hx hb d_P_judge_32 rfl hl (by decide) rfl (fun ls hl => ?_)
      refine lv_aload_n hx hb d_P_judge_33 rfl (lv_at hl 2 rfl) ?_
      refine va_get (D := (dC, dI)) (ci := 1) (v := .ref u4) (C := R_L) (T := F_L) (N := 10) hx hb hT i_L hown hK hP 0 rfl rfl 3 (by decide) (hT _ kw_30) (fun _ h9 => h9) rfl d_P_judge_34 ?_
      refine lv_iload_n hx hb d_P_judge_37 rfl (lv_at hl 3 rfl) ?_
      refine va_iald hx hb hK hP 4 0 rfl rfl (ti_vp (by omega) (by omega)) d_P_judge_38 ?_
      refine lv_istore (lv' := [(4, .int (L.2.2.2.1 x2.toNatClampNeg)), (3, .int 1), (0, .ref p0), (1, .ref u0), (2, .int x2)]) hx hb d_P_judge_39 hl (by decide) rfl (fun ls hl => ?_)
      refine lv_aload_n hx hb d_P_judge_41 rfl (lv_at hl 3 rfl) ?_
      refine va_get (D := (dC, dI)) (ci := 1) (v := .ref u1) (C := R_L) (T := F_L) (N := 10) hx hb hT i_L hown hK hP 0 rfl rfl 0 (by decide) (hT _ kw_22) (fun _ h9 => h9) rfl d_P_judge_42 ?_
      refine lv_iload_n hx hb d_P_judge_45 rfl (lv_at hl 4 rfl) ?_
      refine va_iald hx hb hK hP 1 0 rfl rfl (ti_vp (by omega) (by omega)) d_P_judge_46 ?_
      by_cases c_47_0 : (L.1 x2.toNatClampNeg) = 0
      · refine lv_tableIn (off := 29) (tgt := 76) hx hb d_P_judge_47 (by rw [c_47_0]; decide) (by rw [c_47_0]; decide) (by rw [c_47_0]; decide) (by decide) ?_
        refine lv_aload_n hx hb d_P_judge_76 rfl (lv_at hl 2 rfl) ?_
        refine va_get (D := (dC, dI)) (ci := 2) (v := .ref h0) (C := R_P) (T := F_P) (N := 5) hx hb hT i_P hown hK hP 9 rfl rfl 1 (by decide) (hT _ kw_109) (fun _ h9 => h9) rfl d_P_judge_77 ?_
        refine lv_iload hx hb d_P_judge_80 (lv_at hl 0 rfl) ?_
        have hc := c_T_bringIn l dC dI cI cZ cQ h0 a1 a2 a3 a4 P.2.1 (L.2.2.2.1 x2.toNatClampNeg) (hok) (by have := hrow.2.2.1 (by rw [c_47_0]; decide); omega)
        generalize hg_82 : (m_T_bringIn P.2.1 (L.2.2.2.1 x2.toNatClampNeg)) = g_82 at hc
        refine vz_callV (As := [.int (L.2.2.2.1 x2.toNatClampNeg)]) (rest := []) ⟨hx, hb, hml, hown, hT⟩ hc (vz_goodV kw_181 kw_182 kw_183 kw_4 kw_184) ⟨rfl, hd_T_bringIn⟩ ⟨⟨rfl, rfl⟩, Nat.le_of_ble_eq_true rfl, Nat.le_of_ble_eq_true rfl⟩ hK hP hD hS [11, 12, 13, 14, 15] rfl (hC_P_judge_82 cI cZ cQ u0 u1 u2 u3 u4 u5 u6 u7 u8 p0 p1 h0 a1 a2 a3 a4 L P) (hF_T_bringIn cI cZ cQ _ _) 0 0 rfl rfl rfl rfl hl.1 rfl (Nat.le_of_ble_eq_true rfl) ⟨Nat.zero_le _, Nat.zero_le _⟩ d_P_judge_82 (fun H locs hP hD hS => ?_)
        have hP : va_P (dC, dI) classes (wL cI cZ u0 u1 u2 u3 u4 u5 u6 u7 u8 L ++ wP cI cZ p0 p1 h0 a1 a2 a3 a4 (P.1, g_82, P.2.2.1, P.2.2.2.1, P.2.2.2.2)) H := vz_reP (hU_P_judge_82 cI cZ cQ u0 u1 u2 u3 u4 u5 u6 u7 u8 p0 p1 h0 a1 a2 a3 a4 L P g_82) hP
        have hD : va_D (vz_A (wL cI cZ u0 u1 u2 u3 u4 u5 u6 u7 u8 L ++ wP cI cZ p0 p1 h0 a1 a2 a3 a4 P)) (wL cI cZ u0 u1 u2 u3 u4 u5 u6 u7 u8 L ++ wP cI cZ p0 p1 h0 a1 a2 a3 a4 (P.1, g_82, P.2.2.1, P.2.2.2.1, P.2.2.2.2)) := vz_reD (hU_P_judge_82 cI cZ cQ u0 u1 u2 u3 u4 u5 u6 u7 u8 p0 p1 h0 a1 a2 a3 a4 L P g_82) hD
        refine W.eq (g2 := F0 m 85 ls []) rfl ?_
        refine lv_goto (tgt := 139) hx hb d_P_judge_85 (by decide) ?_
        refine lv_aload_n hx hb d_P_judge_139 rfl (lv_at hl 2 rfl) ?_
        refine va_get (D := (dC, dI)) (ci := 2) (v := .ref p1) (C := R_P) (T := F_P) (N := 5) hx hb hT i_P hown hK hP 9 rfl rfl 0 (by decide) (hT _ kw_107) (fun _ h9 => h9) rfl d_P_judge_140 ?_
        refine lv_iload_n hx hb d_P_judge_143 rfl (lv_at hl 4 rfl) ?_
        refine lv_iload_n hx hb d_P_judge_144 rfl (lv_at hl 1 rfl) ?_
        refine lv_if_eq (tgt := 152) hx hb d_P_judge_145 (by decide) (fun c_145 => ?_) (fun c_145 => ?_)
        · have z_145 : (1 : Int32).toInt = (0 : Int32).toInt := congrArg Int32.toInt c_145
          refine lv_iconst (v := 2) hx hb d_P_judge_152 (by decide) ?_
          refine va_iast hx hb hK hP hD hS 10 0 rfl rfl (ti_vp (by omega) (by omega)) d_P_judge_153 (fun H locs hP hD hS => ?_)
          have hP : va_P (dC, dI) classes (wL cI cZ u0 u1 u2 u3 u4 u5 u6 u7 u8 L ++ wP cI cZ p0 p1 h0 a1 a2 a3 a4 (upd P.1 x2.toNatClampNeg 2, g_82, P.2.2.1, P.2.2.2.1, P.2.2.2.2)) H := vz_reP (hW_P_judge_153 cI cZ cQ u0 u1 u2 u3 u4 u5 u6 u7 u8 p0 p1 h0 a1 a2 a3 a4 L (P.1, g_82, P.2.2.1, P.2.2.2.1, P.2.2.2.2) (upd P.1 x2.toNatClampNeg 2)) hP
          have hD : va_D (vz_A (wL cI cZ u0 u1 u2 u3 u4 u5 u6 u7 u8 L ++ wP cI cZ p0 p1 h0 a1 a2 a3 a4 P)) (wL cI cZ u0 u1 u2 u3 u4 u5 u6 u7 u8 L ++ wP cI cZ p0 p1 h0 a1 a2 a3 a4 (upd P.1 x2.toNatClampNeg 2, g_82, P.2.2.1, P.2.2.2.1, P.2.2.2.2)) := vz_reD (hW_P_judge_153 cI cZ cQ u0 u1 u2 u3 u4 u5 u6 u7 u8 p0 p1 h0 a1 a2 a3 a4 L (P.1, g_82, P.2.2.1, P.2.2.2.1, P.2.2.2.2) (upd P.1 x2.toNatClampNeg 2)) hD
          rw [m_P_judge, if_neg c_7] at hres
          try rw [hg_17] at hres
          rw [if_pos c_20, if_pos c_47_0] at hres
          try rw [hg_82] at hres
          rw [if_pos c_145] at hres
          subst hres
          subst hQ
          exact vz_vret hx hb hr hlocks d_P_judge_154 hS rfl hP
        · have z_145 : ¬ (1 : Int32).toInt = (0 : Int32).toInt := mt Int32.toInt_inj.mp c_145
          refine lv_iconst (v := 1) hx hb d_P_judge_148 (by decide) ?_
          refine lv_goto (tgt := 153) hx hb d_P_judge_149 (by decide) ?_
          refine va_iast hx hb hK hP hD hS 10 0 rfl rfl (ti_vp (by omega) (by omega)) d_P_judge_153 (fun H locs hP hD hS => ?_)
          have hP : va_P (dC, dI) classes (wL cI cZ u0 u1 u2 u3 u4 u5 u6 u7 u8 L ++ wP cI cZ p0 p1 h0 a1 a2 a3 a4 (upd P.1 x2.toNatClampNeg 1, g_82, P.2.2.1, P.2.2.2.1, P.2.2.2.2)) H := vz_reP (hW_P_judge_153 cI cZ cQ u0 u1 u2 u3 u4 u5 u6 u7 u8 p0 p1 h0 a1 a2 a3 a4 L (P.1, g_82, P.2.2.1, P.2.2.2.1, P.2.2.2.2) (upd P.1 x2.toNatClampNeg 1)) hP
          have hD : va_D (vz_A (wL cI cZ u0 u1 u2 u3 u4 u5 u6 u7 u8 L ++ wP cI cZ p0 p1 h0 a1 a2 a3 a4 P)) (wL cI cZ u0 u1 u2 u3 u4 u5 u6 u7 u8 L ++ wP cI cZ p0 p1 h0 a1 a2 a3 a4 (upd P.1 x2.toNatClampNeg 1, g_82, P.2.2.1, P.2.2.2.1, P.2.2.2.2)) := vz_reD (hW_P_judge_153 cI cZ cQ u0 u1 u2 u3 u4 u5 u6 u7 u8 p0 p1 h0 a1 a2 a3 a4 L (P.1, g_82, P.2.2.1, P.2.2.2.1, P.2.2.2.2) (upd P.1 x2.toNatClampNeg 1)) hD
          rw [m_P_judge, if_neg c_7] at hres
          try rw [hg_17] at hres
          rw [if_pos c_20, if_pos c_47_0] at hres
          try rw [hg_82] at hres
          rw [if_neg c_145] at hres
          subst hres
          subst hQ
          exact vz_vret hx hb hr hlocks d_P_judge_154 hS rfl hP
      · by_cases c_47_1 : (L.1 x2.toNatClampNeg) = 1
        · refine lv_tableIn (off := 41) (tgt := 88) hx hb d_P_judge_47 (by rw [c_47_1]; decide) (by rw [c_47_1]; decide) (by rw [c_47_1]; decide) (by decide) ?_
          refine lv_aload_n hx hb d_P_judge_88 rfl (lv_at hl 2 rfl) ?_
          refine va_get (D := (dC, dI)) (ci := 2) (v := .ref h0) (C := R_P) (T := F_P) (N := 5) hx hb hT i_P hown hK hP 9 rfl rfl 1 (by decide) (hT _ kw_109) (fun _ h9 => h9) rfl d_P_judge_89 ?_
          refine lv_iload hx hb d_P_judge_92 (lv_at hl 0 rfl) ?_
          refine lv_aload_n hx hb d_P_judge_94 rfl (lv_at hl 3 rfl) ?_
          refine va_get (D := (dC, dI)) (ci := 1) (v := .ref u5) (C := R_L) (T := F_L) (N := 10) hx hb hT i_L hown hK hP 0 rfl rfl 4 (by decide) (hT _ kw_33) (fun _ h9 => h9) rfl d_P_judge_95 ?_
          refine lv_iload_n hx hb d_P_judge_98 rfl (lv_at hl 4 rfl) ?_
          refine va_iald hx hb hK hP 5 0 rfl rfl (ti_vp (by omega) (by omega)) d_P_judge_99 ?_
          refine lv_aload_n hx hb d_P_judge_100 rfl (lv_at hl 3 rfl) ?_
          refine va_get (D := (dC, dI)) (ci := 1) (v := .ref u6) (C := R_L) (T := F_L) (N := 10) hx hb hT i_L hown hK hP 0 rfl rfl 5 (by decide) (hT _ kw_36) (fun _ h9 => h9) rfl d_P_judge_101 ?_
          refine lv_iload_n hx hb d_P_judge_104 rfl (lv_at hl 4 rfl) ?_
          refine va_iald hx hb hK hP 6 0 rfl rfl (ti_vp (by omega) (by omega)) d_P_judge_105 ?_
          have hc := c_T_moveTo l dC dI cI cZ cQ h0 a1 a2 a3 a4 P.2.1 (L.2.2.2.1 x2.toNatClampNeg) (L.2.2.2.2.1 x2.toNatClampNeg) (L.2.2.2.2.2.1 x2.toNatClampNeg) (hok) (by have := hrow.2.2.1 (by rw [c_47_1]; decide); omega) (hrow.2.2.2.1 c_47_1)
          generalize hg_106 : (m_T_moveTo P.2.1 (L.2.2.2.1 x2.toNatClampNeg) (L.2.2.2.2.1 x2.toNatClampNeg) (L.2.2.2.2.2.1 x2.toNatClampNeg)) = g_106 at hc
          refine vz_callV (As := [.int (L.2.2.2.1 x2.toNatClampNeg), .int (L.2.2.2.2.1 x2.toNatClampNeg), .int (L.2.2.2.2.2.1 x2.toNatClampNeg)]) (rest := []) ⟨hx, hb, hml, hown, hT⟩ hc (vz_goodV kw_189 kw_190 kw_191 kw_4 kw_192) ⟨rfl, hd_T_moveTo⟩ ⟨⟨rfl, rfl⟩, Nat.le_of_ble_eq_true rfl, Nat.le_of_ble_eq_true rfl⟩ hK hP hD hS [11, 12, 13, 14, 15] rfl (hC_P_judge_106 cI cZ cQ u0 u1 u2 u3 u4 u5 u6 u7 u8 p0 p1 h0 a1 a2 a3 a4 L P) (hF_T_moveTo cI cZ cQ _ _) 0 0 rfl rfl rfl rfl hl.1 rfl (Nat.le_of_ble_eq_true rfl) ⟨Nat.zero_le _, Nat.zero_le _⟩ d_P_judge_106 (fun H locs hP hD hS => ?_)
          have hP : va_P (dC, dI) classes (wL cI cZ u0 u1 u2 u3 u4 u5 u6 u7 u8 L ++ wP cI cZ p0 p1 h0 a1 a2 a3 a4 (P.1, g_106.2, P.2.2.1, P.2.2.2.1, P.2.2.2.2)) H := vz_reP (hU_P_judge_106 cI cZ cQ u0 u1 u2 u3 u4 u5 u6 u7 u8 p0 p1 h0 a1 a2 a3 a4 L P g_106.2) hP
          have hD : va_D (vz_A (wL cI cZ u0 u1 u2 u3 u4 u5 u6 u7 u8 L ++ wP cI cZ p0 p1 h0 a1 a2 a3 a4 P)) (wL cI cZ u0 u1 u2 u3 u4 u5 u6 u7 u8 L ++ wP cI cZ p0 p1 h0 a1 a2 a3 a4 (P.1, g_106.2, P.2.2.1, P.2.2.2.1, P.2.2.2.2)) := vz_reD (hU_P_judge_106 cI cZ cQ u0 u1 u2 u3 u4 u5 u6 u7 u8 p0 p1 h0 a1 a2 a3 a4 L P g_106.2) hD
          refine W.eq (g2 := F0 m 109 ls [.int g_106.1]) rfl ?_
          refine lv_istore_n (lv' := [(3, .int g_106.1), (4, .int (L.2.2.2.1 x2.toNatClampNeg)), (0, .ref p0), (1, .ref u0), (2, .int x2)]) hx hb d_P_judge_109 rfl hl (by decide) rfl (fun ls hl => ?_)
          refine lv_goto (tgt := 139) hx hb d_P_judge_110 (by decide) ?_
          refine lv_aload_n hx hb d_P_judge_139 rfl (lv_at hl 2 rfl) ?_
          refine va_get (D := (dC, dI)) (ci := 2) (v := .ref p1) (C := R_P) (T := F_P) (N := 5) hx hb hT i_P hown hK hP 9 rfl rfl 0 (by decide) (hT _ kw_107) (fun _ h9 => h9) rfl d_P_judge_140 ?_
          refine lv_iload_n hx hb d_P_judge_143 rfl (lv_at hl 4 rfl) ?_
          refine lv_iload_n hx hb d_P_judge_144 rfl (lv_at hl 0 rfl) ?_
          refine lv_if_eq (tgt := 152) hx hb d_P_judge_145 (by decide) (fun c_145 => ?_) (fun c_145 => ?_)
          · have z_145 : g_106.1.toInt = (0 : Int32).toInt := congrArg Int32.toInt c_145
            refine lv_iconst (v := 2) hx hb d_P_judge_152 (by decide) ?_
            refine va_iast hx hb hK hP hD hS 10 0 rfl rfl (ti_vp (by omega) (by omega)) d_P_judge_153 (fun H locs hP hD hS => ?_)
            have hP : va_P (dC, dI) classes (wL cI cZ u0 u1 u2 u3 u4 u5 u6 u7 u8 L ++ wP cI cZ p0 p1 h0 a1 a2 a3 a4 (upd P.1 x2.toNatClampNeg 2, g_106.2, P.2.2.1, P.2.2.2.1, P.2.2.2.2)) H := vz_reP (hW_P_judge_153 cI cZ cQ u0 u1 u2 u3 u4 u5 u6 u7 u8 p0 p1 h0 a1 a2 a3 a4 L (P.1, g_106.2, P.2.2.1, P.2.2.2.1, P.2.2.2.2) (upd P.1 x2.toNatClampNeg 2)) hP
            have hD : va_D (vz_A (wL cI cZ u0 u1 u2 u3 u4 u5 u6 u7 u8 L ++ wP cI cZ p0 p1 h0 a1 a2 a3 a4 P)) (wL cI cZ u0 u1 u2 u3 u4 u5 u6 u7 u8 L ++ wP cI cZ p0 p1 h0 a1 a2 a3 a4 (upd P.1 x2.toNatClampNeg 2, g_106.2, P.2.2.1, P.2.2.2.1, P.2.2.2.2)) := vz_reD (hW_P_judge_153 cI cZ cQ u0 u1 u2 u3 u4 u5 u6 u7 u8 p0 p1 h0 a1 a2 a3 a4 L (P.1, g_106.2, P.2.2.1, P.2.2.2.1, P.2.2.2.2) (upd P.1 x2.toNatClampNeg 2)) hD
            rw [m_P_judge, if_neg c_7] at hres
            try rw [hg_17] at hres
            rw [if_pos c_20, if_neg c_47_0, if_pos c_47_1] at hres
            try rw [hg_106] at hres
            rw [if_pos c_145] at hres
            subst hres
            subst hQ
            exact vz_vret hx hb hr hlocks d_P_judge_154 hS rfl hP
          · have z_145 : ¬ g_106.1.toInt = (0 : Int32).toInt := mt Int32.toInt_inj.mp c_145
            refine lv_iconst (v := 1) hx hb d_P_judge_148 (by decide) ?_
            refine lv_goto (tgt := 153) hx hb d_P_judge_149 (by decide) ?_
            refine va_iast hx hb hK hP hD hS 10 0 rfl rfl (ti_vp (by omega) (by omega)) d_P_judge_153 (fun H locs hP hD hS => ?_)
            have hP : va_P (dC, dI) classes (wL cI cZ u0 u1 u2 u3 u4 u5 u6 u7 u8 L ++ wP cI cZ p0 p1 h0 a1 a2 a3 a4 (upd P.1 x2.toNatClampNeg 1, g_106.2, P.2.2.1, P.2.2.2.1, P.2.2.2.2)) H := vz_reP (hW_P_judge_153 cI cZ cQ u0 u1 u2 u3 u4 u5 u6 u7 u8 p0 p1 h0 a1 a2 a3 a4 L (P.1, g_106.2, P.2.2.1, P.2.2.2.1, P.2.2.2.2) (upd P.1 x2.toNatClampNeg 1)) hP
            have hD : va_D (vz_A (wL cI cZ u0 u1 u2 u3 u4 u5 u6 u7 u8 L ++ wP cI cZ p0 p1 h0 a1 a2 a3 a4 P)) (wL cI cZ u0 u1 u2 u3 u4 u5 u6 u7 u8 L ++ wP cI cZ p0 p1 h0 a1 a2 a3 a4 (upd P.1 x2.toNatClampNeg 1, g_106.2, P.2.2.1, P.2.2.2.1, P.2.2.2.2)) := vz_reD (hW_P_judge_153 cI cZ cQ u0 u1 u2 u3 u4 u5 u6 u7 u8 p0 p1 h0 a1 a2 a3 a4 L (P.1, g_106.2, P.2.2.1, P.2.2.2.1, P.2.2.2.2) (upd P.1 x2.toNatClampNeg 1)) hD
            rw [m_P_judge, if_neg c_7] at hres
            try rw [hg_17] at hres
            rw [if_pos c_20, if_neg c_47_0, if_pos c_47_1] at hres
            try rw [hg_106] at hres
            rw [if_neg c_145] at hres
            subst hres
            subst hQ
            exact vz_vret hx hb hr hlocks d_P_judge_154 hS rfl hP
        · by_cases c_47_2 : (L.1 x2.toNatClampNeg) = 2
          · refine lv_tableIn (off := 66) (tgt := 113) hx hb d_P_judge_47 (by rw [c_47_2]; decide) (by rw [c_47_2]; decide) (by rw [c_47_2]; decide) (by decide) ?_
            refine lv_aload_n hx hb d_P_judge_113 rfl (lv_at hl 2 rfl) ?_
            refine va_get (D := (dC, dI)) (ci := 2) (v := .ref h0) (C := R_P) (T := F_P) (N := 5) hx hb hT i_P hown hK hP 9 rfl rfl 1 (by decide) (hT _ kw_109) (fun _ h9 => h9) rfl d_P_judge_114 ?_
            refine lv_iload hx hb d_P_judge_117 (lv_at hl 0 rfl) ?_
            have hc := c_T_throwAway l dC dI cI cZ cQ h0 a1 a2 a3 a4 P.2.1 (L.2.2.2.1 x2.toNatClampNeg) (hok) (by have := hrow.2.2.1 (by rw [c_47_2]; decide); omega)
            generalize hg_119 : (m_T_throwAway P.2.1 (L.2.2.2.1 x2.toNatClampNeg)) = g_119 at hc
            refine vz_callV (As := [.int (L.2.2.2.1 x2.toNatClampNeg)]) (rest := []) ⟨hx, hb, hml, hown, hT⟩ hc (vz_goodV kw_209 kw_210 kw_211 kw_4 kw_212) ⟨rfl, hd_T_throwAway⟩ ⟨⟨rfl, rfl⟩, Nat.le_of_ble_eq_true rfl, Nat.le_of_ble_eq_true rfl⟩ hK hP hD hS [11, 12, 13, 14, 15] rfl (hC_P_judge_119 cI cZ cQ u0 u1 u2 u3 u4 u5 u6 u7 u8 p0 p1 h0 a1 a2 a3 a4 L P) (hF_T_throwAway cI cZ cQ _ _) 0 0 rfl rfl rfl rfl hl.1 rfl (Nat.le_of_ble_eq_true rfl) ⟨Nat.zero_le _, Nat.zero_le _⟩ d_P_judge_119 (fun H locs hP hD hS => ?_)
            have hP : va_P (dC, dI) classes (wL cI cZ u0 u1 u2 u3 u4 u5 u6 u7 u8 L ++ wP cI cZ p0 p1 h0 a1 a2 a3 a4 (P.1, g_119.2, P.2.2.1, P.2.2.2.1, P.2.2.2.2)) H := vz_reP (hU_P_judge_119 cI cZ cQ u0 u1 u2 u3 u4 u5 u6 u7 u8 p0 p1 h0 a1 a2 a3 a4 L P g_119.2) hP
            have hD : va_D (vz_A (wL cI cZ u0 u1 u2 u3 u4 u5 u6 u7 u8 L ++ wP cI cZ p0 p1 h0 a1 a2 a3 a4 P)) (wL cI cZ u0 u1 u2 u3 u4 u5 u6 u7 u8 L ++ wP cI cZ p0 p1 h0 a1 a2 a3 a4 (P.1, g_119.2, P.2.2.1, P.2.2.2.1, P.2.2.2.2)) := vz_reD (hU_P_judge_119 cI cZ cQ u0 u1 u2 u3 u4 u5 u6 u7 u8 p0 p1 h0 a1 a2 a3 a4 L P g_119.2) hD
            refine W.eq (g2 := F0 m 122 ls [.int g_119.1]) rfl ?_
            refine lv_istore_n (lv' := [(3, .int g_119.1), (4, .int (L.2.2.2.1 x2.toNatClampNeg)), (0, .ref p0), (1, .ref u0), (2, .int x2)]) hx hb d_P_judge_122 rfl hl (by decide) rfl (fun ls hl => ?_)
            refine lv_goto (tgt := 139) hx hb d_P_judge_123 (by decide) ?_
            refine lv_aload_n hx hb d_P_judge_139 rfl (lv_at hl 2 rfl) ?_
            refine va_get (D := (dC, dI)) (ci := 2) (v := .ref p1) (C := R_P) (T := F_P) (N := 5) hx hb hT i_P hown hK hP 9 rfl rfl 0 (by decide) (hT _ kw_107) (fun _ h9 => h9) rfl d_P_judge_140 ?_
            refine lv_iload_n hx hb d_P_judge_143 rfl (lv_at hl 4 rfl) ?_
            refine lv_iload_n hx hb d_P_judge_144 rfl (lv_at hl 0 rfl) ?_
            refine lv_if_eq (tgt := 152) hx hb d_P_judge_145 (by decide) (fun c_145 => ?_) (fun c_145 => ?_)
            · have z_145 : g_119.1.toInt = (0 : Int32).toInt := congrArg Int32.toInt c_145
              refine lv_iconst (v := 2) hx hb d_P_judge_152 (by decide) ?_
              refine va_iast hx hb hK hP hD hS 10 0 rfl rfl (ti_vp (by omega) (by omega)) d_P_judge_153 (fun H locs hP hD hS => ?_)
              have hP : va_P (dC, dI) classes (wL cI cZ u0 u1 u2 u3 u4 u5 u6 u7 u8 L ++ wP cI cZ p0 p1 h0 a1 a2 a3 a4 (upd P.1 x2.toNatClampNeg 2, g_119.2, P.2.2.1, P.2.2.2.1, P.2.2.2.2)) H := vz_reP (hW_P_judge_153 cI cZ cQ u0 u1 u2 u3 u4 u5 u6 u7 u8 p0 p1 h0 a1 a2 a3 a4 L (P.1, g_119.2, P.2.2.1, P.2.2.2.1, P.2.2.2.2) (upd P.1 x2.toNatClampNeg 2)) hP
              have hD : va_D (vz_A (wL cI cZ u0 u1 u2 u3 u4 u5 u6 u7 u8 L ++ wP cI cZ p0 p1 h0 a1 a2 a3 a4 P)) (wL cI cZ u0 u1 u2 u3 u4 u5 u6 u7 u8 L ++ wP cI cZ p0 p1 h0 a1 a2 a3 a4 (upd P.1 x2.toNatClampNeg 2, g_119.2, P.2.2.1, P.2.2.2.1, P.2.2.2.2)) := vz_reD (hW_P_judge_153 cI cZ cQ u0 u1 u2 u3 u4 u5 u6 u7 u8 p0 p1 h0 a1 a2 a3 a4 L (P.1, g_119.2, P.2.2.1, P.2.2.2.1, P.2.2.2.2) (upd P.1 x2.toNatClampNeg 2)) hD
              rw [m_P_judge, if_neg c_7] at hres
              try rw [hg_17] at hres
              rw [if_pos c_20, if_neg c_47_0, if_neg c_47_1, if_pos c_47_2] at hres
              try rw [hg_119] at hres
              rw [if_pos c_145] at hres
              subst hres
              subst hQ
              exact vz_vret hx hb hr hlocks d_P_judge_154 hS rfl hP
            · have z_145 : ¬ g_119.1.toInt = (0 : Int32).toInt := mt Int32.toInt_inj.mp c_145
              refine lv_iconst (v := 1) hx hb d_P_judge_148 (by decide) ?_
              refine lv_goto (tgt := 153) hx hb d_P_judge_149 (by decide) ?_
              refine va_iast hx hb hK hP hD hS 10 0 rfl rfl (ti_vp (by omega) (by omega)) d_P_judge_153 (fun H locs hP hD hS => ?_)
              have hP : va_P (dC, dI) classes (wL cI cZ u0 u1 u2 u3 u4 u5 u6 u7 u8 L ++ wP cI cZ p0 p1 h0 a1 a2 a3 a4 (upd P.1 x2.toNatClampNeg 1, g_119.2, P.2.2.1, P.2.2.2.1, P.2.2.2.2)) H := vz_reP (hW_P_judge_153 cI cZ cQ u0 u1 u2 u3 u4 u5 u6 u7 u8 p0 p1 h0 a1 a2 a3 a4 L (P.1, g_119.2, P.2.2.1, P.2.2.2.1, P.2.2.2.2) (upd P.1 x2.toNatClampNeg 1)) hP
              have hD : va_D (vz_A (wL cI cZ u0 u1 u2 u3 u4 u5 u6 u7 u8 L ++ wP cI cZ p0 p1 h0 a1 a2 a3 a4 P)) (wL cI cZ u0 u1 u2 u3 u4 u5 u6 u7 u8 L ++ wP cI cZ p0 p1 h0 a1 a2 a3 a4 (upd P.1 x2.toNatClampNeg 1, g_119.2, P.2.2.1, P.2.2.2.1, P.2.2.2.2)) := vz_reD (hW_P_judge_153 cI cZ cQ u0 u1 u2 u3 u4 u5 u6 u7 u8 p0 p1 h0 a1 a2 a3 a4 L (P.1, g_119.2, P.2.2.1, P.2.2.2.1, P.2.2.2.2) (upd P.1 x2.toNatClampNeg 1)) hD
              rw [m_P_judge, if_neg c_7] at hres
              try rw [hg_17] at hres
              rw [if_pos c_20, if_neg c_47_0, if_neg c_47_1, if_pos c_47_2] at hres
              try rw [hg_119] at hres
              rw [if_neg c_145] at hres
              subst hres
              subst hQ
              exact vz_vret hx hb hr hlocks d_P_judge_154 hS rfl hP
          · by_cases c_47_3 : (L.1 x2.toNatClampNeg) = 3
            · refine lv_tableIn (off := 79) (tgt := 126) hx hb d_P_judge_47 (by rw [c_47_3]; decide) (by rw [c_47_3]; decide) (by rw [c_47_3]; decide) (by decide) ?_
              refine lv_aload_n hx hb d_P_judge_126 rfl (lv_at hl 2 rfl) ?_
              refine va_get (D := (dC, dI)) (ci := 2) (v := .ref h0) (C := R_P) (T := F_P) (N := 5) hx hb hT i_P hown hK hP 9 rfl rfl 1 (by decide) (hT _ kw_109) (fun _ h9 => h9) rfl d_P_judge_127 ?_
              refine lv_iload hx hb d_P_judge_130 (lv_at hl 0 rfl) ?_
              have hc := c_T_bringBack l dC dI cI cZ cQ h0 a1 a2 a3 a4 P.2.1 (L.2.2.2.1 x2.toNatClampNeg) (hok) (by have := hrow.2.2.1 (by rw [c_47_3]; decide); omega)
              generalize hg_132 : (m_T_bringBack P.2.1 (L.2.2.2.1 x2.toNatClampNeg)) = g_132 at hc
              refine vz_callV (As := [.int (L.2.2.2.1 x2.toNatClampNeg)]) (rest := []) ⟨hx, hb, hml, hown, hT⟩ hc (vz_goodV kw_213 kw_214 kw_215 kw_4 kw_216) ⟨rfl, hd_T_bringBack⟩ ⟨⟨rfl, rfl⟩, Nat.le_of_ble_eq_true rfl, Nat.le_of_ble_eq_true rfl⟩ hK hP hD hS [11, 12, 13, 14, 15] rfl (hC_P_judge_132 cI cZ cQ u0 u1 u2 u3 u4 u5 u6 u7 u8 p0 p1 h0 a1 a2 a3 a4 L P) (hF_T_bringBack cI cZ cQ _ _) 0 0 rfl rfl rfl rfl hl.1 rfl (Nat.le_of_ble_eq_true rfl) ⟨Nat.zero_le _, Nat.zero_le _⟩ d_P_judge_132 (fun H locs hP hD hS => ?_)
              have hP : va_P (dC, dI) classes (wL cI cZ u0 u1 u2 u3 u4 u5 u6 u7 u8 L ++ wP cI cZ p0 p1 h0 a1 a2 a3 a4 (P.1, g_132.2, P.2.2.1, P.2.2.2.1, P.2.2.2.2)) H := vz_reP (hU_P_judge_132 cI cZ cQ u0 u1 u2 u3 u4 u5 u6 u7 u8 p0 p1 h0 a1 a2 a3 a4 L P g_132.2) hP
              have hD : va_D (vz_A (wL cI cZ u0 u1 u2 u3 u4 u5 u6 u7 u8 L ++ wP cI cZ p0 p1 h0 a1 a2 a3 a4 P)) (wL cI cZ u0 u1 u2 u3 u4 u5 u6 u7 u8 L ++ wP cI cZ p0 p1 h0 a1 a2 a3 a4 (P.1, g_132.2, P.2.2.1, P.2.2.2.1, P.2.2.2.2)) := vz_reD (hU_P_judge_132 cI cZ cQ u0 u1 u2 u3 u4 u5 u6 u7 u8 p0 p1 h0 a1 a2 a3 a4 L P g_132.2) hD
              refine W.eq (g2 := F0 m 135 ls [.int g_132.1]) rfl ?_
              refine lv_istore_n (lv' := [(3, .int g_132.1), (4, .int (L.2.2.2.1 x2.toNatClampNeg)), (0, .ref p0), (1, .ref u0), (2, .int x2)]) hx hb d_P_judge_135 rfl hl (by decide) rfl (fun ls hl => ?_)
              refine lv_goto (tgt := 139) hx hb d_P_judge_136 (by decide) ?_
              refine lv_aload_n hx hb d_P_judge_139 rfl (lv_at hl 2 rfl) ?_
              refine va_get (D := (dC, dI)) (ci := 2) (v := .ref p1) (C := R_P) (T := F_P) (N := 5) hx hb hT i_P hown hK hP 9 rfl rfl 0 (by decide) (hT _ kw_107) (fun _ h9 => h9) rfl d_P_judge_140 ?_
              refine lv_iload_n hx hb d_P_judge_143 rfl (lv_at hl 4 rfl) ?_
              refine lv_iload_n hx hb d_P_judge_144 rfl (lv_at hl 0 rfl) ?_
              refine lv_if_eq (tgt := 152) hx hb d_P_judge_145 (by decide) (fun c_145 => ?_) (fun c_145 => ?_)
              · have z_145 : g_132.1.toInt = (0 : Int32).toInt := congrArg Int32.toInt c_145
                refine lv_iconst (v := 2) hx hb d_P_judge_152 (by decide) ?_
                refine va_iast hx hb hK hP hD hS 10 0 rfl rfl (ti_vp (by omega) (by omega)) d_P_judge_153 (fun H locs hP hD hS => ?_)
                have hP : va_P (dC, dI) classes (wL cI cZ u0 u1 u2 u3 u4 u5 u6 u7 u8 L ++ wP cI cZ p0 p1 h0 a1 a2 a3 a4 (upd P.1 x2.toNatClampNeg 2, g_132.2, P.2.2.1, P.2.2.2.1, P.2.2.2.2)) H := vz_reP (hW_P_judge_153 cI cZ cQ u0 u1 u2 u3 u4 u5 u6 u7 u8 p0 p1 h0 a1 a2 a3 a4 L (P.1, g_132.2, P.2.2.1, P.2.2.2.1, P.2.2.2.2) (upd P.1 x2.toNatClampNeg 2)) hP
                have hD : va_D (vz_A (wL cI cZ u0 u1 u2 u3 u4 u5 u6 u7 u8 L ++ wP cI cZ p0 p1 h0 a1 a2 a3 a4 P)) (wL cI cZ u0 u1 u2 u3 u4 u5 u6 u7 u8 L ++ wP cI cZ p0 p1 h0 a1 a2 a3 a4 (upd P.1 x2.toNatClampNeg 2, g_132.2, P.2.2.1, P.2.2.2.1, P.2.2.2.2)) := vz_reD (hW_P_judge_153 cI cZ cQ u0 u1 u2 u3 u4 u5 u6 u7 u8 p0 p1 h0 a1 a2 a3 a4 L (P.1, g_132.2, P.2.2.1, P.2.2.2.1, P.2.2.2.2) (upd P.1 x2.toNatClampNeg 2)) hD
                rw [m_P_judge, if_neg c_7] at hres
                try rw [hg_17] at hres
                rw [if_pos c_20, if_neg c_47_0, if_neg c_47_1, if_neg c_47_2, if_pos c_47_3] at hres
                try rw [hg_132] at hres
                rw [if_pos c_145] at hres
                subst hres
                subst hQ
                exact vz_vret hx hb hr hlocks d_P_judge_154 hS rfl hP
              · have z_145 : ¬ g_132.1.toInt = (0 : Int32).toInt := mt Int32.toInt_inj.mp c_145
                refine lv_iconst (v := 1) hx hb d_P_judge_148 (by decide) ?_
                refine lv_goto (tgt := 153) hx hb d_P_judge_149 (by decide) ?_
                refine va_iast hx hb hK hP hD hS 10 0 rfl rfl (ti_vp (by omega) (by omega)) d_P_judge_153 (fun H locs hP hD hS => ?_)
                have hP : va_P (dC, dI) classes (wL cI cZ u0 u1 u2 u3 u4 u5 u6 u7 u8 L ++ wP cI cZ p0 p1 h0 a1 a2 a3 a4 (upd P.1 x2.toNatClampNeg 1, g_132.2, P.2.2.1, P.2.2.2.1, P.2.2.2.2)) H := vz_reP (hW_P_judge_153 cI cZ cQ u0 u1 u2 u3 u4 u5 u6 u7 u8 p0 p1 h0 a1 a2 a3 a4 L (P.1, g_132.2, P.2.2.1, P.2.2.2.1, P.2.2.2.2) (upd P.1 x2.toNatClampNeg 1)) hP
                have hD : va_D (vz_A (wL cI cZ u0 u1 u2 u3 u4 u5 u6 u7 u8 L ++ wP cI cZ p0 p1 h0 a1 a2 a3 a4 P)) (wL cI cZ u0 u1 u2 u3 u4 u5 u6 u7 u8 L ++ wP cI cZ p0 p1 h0 a1 a2 a3 a4 (upd P.1 x2.toNatClampNeg 1, g_132.2, P.2.2.1, P.2.2.2.1, P.2.2.2.2)) := vz_reD (hW_P_judge_153 cI cZ cQ u0 u1 u2 u3 u4 u5 u6 u7 u8 p0 p1 h0 a1 a2 a3 a4 L (P.1, g_132.2, P.2.2.1, P.2.2.2.1, P.2.2.2.2) (upd P.1 x2.toNatClampNeg 1)) hD
                rw [m_P_judge, if_neg c_7] at hres
                try rw [hg_17] at hres
                rw [if_pos c_20, if_neg c_47_0, if_neg c_47_1, if_neg c_47_2, if_pos c_47_3] at hres
                try rw [hg_132] at hres
                rw [if_neg c_145] at hres
                subst hres
                subst hQ
                exact vz_vret hx hb hr hlocks d_P_judge_154 hS rfl hP
            · refine lv_tableOut (tgt := 139) hx hb d_P_judge_47 (by have h0 := lv_neT c_47_0 (by decide : (0 : Int32).toInt = 0); have h1 := lv_neT c_47_1 (by decide : (1 : Int32).toInt = 1); have h2 := lv_neT c_47_2 (by decide : (2 : Int32).toInt = 2); have h3 := lv_neT c_47_3 (by decide : (3 : Int32).toInt = 3); omega) (by decide) ?_
              refine lv_aload_n hx hb d_P_judge_139 rfl (lv_at hl 2 rfl) ?_
              refine va_get (D := (dC, dI)) (ci := 2) (v := .ref p1) (C := R_P) (T := F_P) (N := 5) hx hb hT i_P hown hK hP 9 rfl rfl 0 (by decide) (hT _ kw_107) (fun _ h9 => h9) rfl d_P_judge_140 ?_
              refine lv_iload_n hx hb d_P_judge_143 rfl (lv_at hl 4 rfl) ?_
              refine lv_iload_n hx hb d_P_judge_144 rfl (lv_at hl 1 rfl) ?_
              refine lv_if_eq (tgt := 152) hx hb d_P_judge_145 (by decide) (fun c_145 => ?_) (fun c_145 => ?_)
              · have z_145 : (1 : Int32).toInt = (0 : Int32).toInt := congrArg Int32.toInt c_145
                refine lv_iconst (v := 2) hx hb d_P_judge_152 (by decide) ?_
                refine va_iast hx hb hK hP hD hS 10 0 rfl rfl (ti_vp (by omega) (by omega)) d_P_judge_153 (fun H locs hP hD hS => ?_)
                have hP : va_P (dC, dI) classes (wL cI cZ u0 u1 u2 u3 u4 u5 u6 u7 u8 L ++ wP cI cZ p0 p1 h0 a1 a2 a3 a4 (upd P.1 x2.toNatClampNeg 2, P.2.1, P.2.2.1, P.2.2.2.1, P.2.2.2.2)) H := vz_reP (hW_P_judge_153 cI cZ cQ u0 u1 u2 u3 u4 u5 u6 u7 u8 p0 p1 h0 a1 a2 a3 a4 L P (upd P.1 x2.toNatClampNeg 2)) hP
                have hD : va_D (vz_A (wL cI cZ u0 u1 u2 u3 u4 u5 u6 u7 u8 L ++ wP cI cZ p0 p1 h0 a1 a2 a3 a4 P)) (wL cI cZ u0 u1 u2 u3 u4 u5 u6 u7 u8 L ++ wP cI cZ p0 p1 h0 a1 a2 a3 a4 (upd P.1 x2.toNatClampNeg 2, P.2.1, P.2.2.1, P.2.2.2.1, P.2.2.2.2)) := vz_reD (hW_P_judge_153 cI cZ cQ u0 u1 u2 u3 u4 u5 u6 u7 u8 p0 p1 h0 a1 a2 a3 a4 L P (upd P.1 x2.toNatClampNeg 2)) hD
                rw [m_P_judge, if_neg c_7] at hres
                try rw [hg_17] at hres
                rw [if_pos c_20, if_neg c_47_0, if_neg c_47_1, if_neg c_47_2, if_neg c_47_3, if_pos c_145] at hres
                subst hres
                subst hQ
                exact vz_vret hx hb hr hlocks d_P_judge_154 hS rfl hP
              · have z_145 : ¬ (1 : Int32).toInt = (0 : Int32).toInt := mt Int32.toInt_inj.mp c_145
                refine lv_iconst (v := 1) hx hb d_P_judge_148 (by decide) ?_
                refine lv_goto (tgt := 153) hx hb d_P_judge_149 (by decide) ?_
                refine va_iast hx hb hK hP hD hS 10 0 rfl rfl (ti_vp (by omega) (by omega)) d_P_judge_153 (fun H locs hP hD hS => ?_)
                have hP : va_P (dC, dI) classes (wL cI cZ u0 u1 u2 u3 u4 u5 u6 u7 u8 L ++ wP cI cZ p0 p1 h0 a1 a2 a3 a4 (upd P.1 x2.toNatClampNeg 1, P.2.1, P.2.2.1, P.2.2.2.1, P.2.2.2.2)) H := vz_reP (hW_P_judge_153 cI cZ cQ u0 u1 u2 u3 u4 u5 u6 u7 u8 p0 p1 h0 a1 a2 a3 a4 L P (upd P.1 x2.toNatClampNeg 1)) hP
                have hD : va_D (vz_A (wL cI cZ u0 u1 u2 u3 u4 u5 u6 u7 u8 L ++ wP cI cZ p0 p1 h0 a1 a2 a3 a4 P)) (wL cI cZ u0 u1 u2 u3 u4 u5 u6 u7 u8 L ++ wP cI cZ p0 p1 h0 a1 a2 a3 a4 (upd P.1 x2.toNatClampNeg 1, P.2.1, P.2.2.1, P.2.2.2.1, P.2.2.2.2)) := vz_reD (hW_P_judge_153 cI cZ cQ u0 u1 u2 u3 u4 u5 u6 u7 u8 p0 p1 h0 a1 a2 a3 a4 L P (upd P.1 x2.toNatClampNeg 1)) hD
                rw [m_P_judge, if_neg c_7] at hres
                try rw [hg_17] at hres
                rw [if_pos c_20, if_neg c_47_0, if_neg c_47_1, if_neg c_47_2, if_neg c_47_3, if_neg c_145] at hres
                subst hres
                subst hQ
                exact vz_vret hx hb hr hlocks d_P_judge_154 hS rfl hP
    · have z_20 : ¬ g_17.toInt = (0 : Int32).toInt := mt Int32.toInt_inj.mp c_20
      refine lv_aload_n hx hb d_P_judge_23 rfl (lv_at hl 0 rfl) ?_
      refine va_get (D := (dC, dI)) (ci := 2) (v := .ref p1) (C := R_P) (T := F_P) (N := 5) hx hb hT i_P hown hK hP 9 rfl rfl 0 (by decide) (hT _ kw_107) (fun _ h9 => h9) rfl d_P_judge_24 ?_
      refine lv_iload_n hx hb d_P_judge_27 rfl (lv_at hl 2 rfl) ?_
      refine lv_iconst (v := 3) hx hb d_P_judge_28 (by decide) ?_
      refine va_iast hx hb hK hP hD hS 10 0 rfl rfl (ti_vp (by omega) (by omega)) d_P_judge_29 (fun H locs hP hD hS => ?_)
      have hP : va_P (dC, dI) classes (wL cI cZ u0 u1 u2 u3 u4 u5 u6 u7 u8 L ++ wP cI cZ p0 p1 h0 a1 a2 a3 a4 (upd P.1 x2.toNatClampNeg 3, P.2.1, P.2.2.1, P.2.2.2.1, P.2.2.2.2)) H := vz_reP (hW_P_judge_29 cI cZ cQ u0 u1 u2 u3 u4 u5 u6 u7 u8 p0 p1 h0 a1 a2 a3 a4 L P (upd P.1 x2.toNatClampNeg 3)) hP
      have hD : va_D (vz_A (wL cI cZ u0 u1 u2 u3 u4 u5 u6 u7 u8 L ++ wP cI cZ p0 p1 h0 a1 a2 a3 a4 P)) (wL cI cZ u0 u1 u2 u3 u4 u5 u6 u7 u8 L ++ wP cI cZ p0 p1 h0 a1 a2 a3 a4 (upd P.1 x2.toNatClampNeg 3, P.2.1, P.2.2.1, P.2.2.2.1, P.2.2.2.2)) := vz_reD (hW_P_judge_29 cI cZ cQ u0 u1 u2 u3 u4 u5 u6 u7 u8 p0 p1 h0 a1 a2 a3 a4 L P (upd P.1 x2.toNatClampNeg 3)) hD
      rw [m_P_judge, if_neg c_7] at hres
      try rw [hg_17] at hres
      rw [if_neg c_20] at hres
      subst hres
      subst hQ
      exact vz_vret hx hb hr hlocks d_P_judge_30 hS rfl hP
