
theorem hC_B_alike2_1 (cI cZ cQ : ClassId) (q0 q1 q2 q3 q4 q5 q6 q7 q8 q9 q10 q11 q12 q13 q14 q15 q16 q17 : Nat) (S0 : (Nat → Option Nat)) (S1 : cL) (S2 : cP) : ([] : List Nat).map (fun i => (wB cI cZ cQ q0 q1 q2 S0 ++ wL cI cZ q2 q3 q4 q5 q6 q7 q8 q9 q10 S1 ++ wP cI cZ q11 q12 q13 q14 q15 q16 q17 S2 : va_W)[i]?) = (([] : va_W) : va_W).map some := rfl
theorem hU_B_alike2_1 (cI cZ cQ : ClassId) (q0 q1 q2 q3 q4 q5 q6 q7 q8 q9 q10 q11 q12 q13 q14 q15 q16 q17 : Nat) (S0 : (Nat → Option Nat)) (S1 : cL) (S2 : cP)  : vz_put (wB cI cZ cQ q0 q1 q2 S0 ++ wL cI cZ q2 q3 q4 q5 q6 q7 q8 q9 q10 S1 ++ wP cI cZ q11 q12 q13 q14 q15 q16 q17 S2 : va_W) [] (([] : va_W) : va_W) = wB cI cZ cQ q0 q1 q2 S0 ++ wL cI cZ q2 q3 q4 q5 q6 q7 q8 q9 q10 S1 ++ wP cI cZ q11 q12 q13 q14 q15 q16 q17 S2 := (show vz_put ([(q0, .inr (3, [.ref q2, .ref q1])), (q1, .inl (cQ, 4, .inr (.inr (.inr (.inr S0))))), (q2, .inr (1, [.ref q3, .ref q4, .ref q5, .ref q6, .ref q7, .ref q8, .ref q9, .ref q10, .int S1.2.2.2.2.2.2.2.2.1, .int S1.2.2.2.2.2.2.2.2.2])), (q3, .inl (cI, 301, .inl S1.1)), (q4, .inl (cI, 301, .inl S1.2.1)), (q5, .inl (cI, 301, .inl S1.2.2.1)), (q6, .inl (cI, 301, .inl S1.2.2.2.1)), (q7, .inl (cI, 301, .inl S1.2.2.2.2.1)), (q8, .inl (cI, 301, .inl S1.2.2.2.2.2.1)), (q9, .inl (cI, 301, .inl S1.2.2.2.2.2.2.1)), (q10, .inl (cI, 300, .inl S1.2.2.2.2.2.2.2.1)), (q11, .inr (2, [.ref q12, .ref q13, .int S2.2.2.1, .int S2.2.2.2.1, .int S2.2.2.2.2])), (q12, .inl (cI, 301, .inl S2.1)), (q13, .inr (0, [.ref q14, .ref q15, .ref q16, .ref q17, .int S2.2.1.2.2.2.2])), (q14, .inl (cZ, 40, .inl S2.2.1.1)), (q15, .inl (cI, 40, .inl S2.2.1.2.1)), (q16, .inl (cI, 40, .inl S2.2.1.2.2.1)), (q17, .inl (cI, 40, .inl S2.2.1.2.2.2.1))] : va_W) [] ([] : va_W) = [(q0, .inr (3, [.ref q2, .ref q1])), (q1, .inl (cQ, 4, .inr (.inr (.inr (.inr S0))))), (q2, .inr (1, [.ref q3, .ref q4, .ref q5, .ref q6, .ref q7, .ref q8, .ref q9, .ref q10, .int S1.2.2.2.2.2.2.2.2.1, .int S1.2.2.2.2.2.2.2.2.2])), (q3, .inl (cI, 301, .inl S1.1)), (q4, .inl (cI, 301, .inl S1.2.1)), (q5, .inl (cI, 301, .inl S1.2.2.1)), (q6, .inl (cI, 301, .inl S1.2.2.2.1)), (q7, .inl (cI, 301, .inl S1.2.2.2.2.1)), (q8, .inl (cI, 301, .inl S1.2.2.2.2.2.1)), (q9, .inl (cI, 301, .inl S1.2.2.2.2.2.2.1)), (q10, .inl (cI, 300, .inl S1.2.2.2.2.2.2.2.1)), (q11, .inr (2, [.ref q12, .ref q13, .int S2.2.2.1, .int S2.2.2.2.1, .int S2.2.2.2.2])), (q12, .inl (cI, 301, .inl S2.1)), (q13, .inr (0, [.ref q14, .ref q15, .ref q16, .ref q17, .int S2.2.1.2.2.2.2])), (q14, .inl (cZ, 40, .inl S2.2.1.1)), (q15, .inl (cI, 40, .inl S2.2.1.2.1)), (q16, .inl (cI, 40, .inl S2.2.1.2.2.1)), (q17, .inl (cI, 40, .inl S2.2.1.2.2.2.1))] from rfl).trans rfl
theorem hC_B_alike2_8 (cI cZ cQ : ClassId) (q0 q1 q2 q3 q4 q5 q6 q7 q8 q9 q10 q11 q12 q13 q14 q15 q16 q17 : Nat) (S0 : (Nat → Option Nat)) (S1 : cL) (S2 : cP) : ([] : List Nat).map (fun i => (wB cI cZ cQ q0 q1 q2 S0 ++ wL cI cZ q2 q3 q4 q5 q6 q7 q8 q9 q10 S1 ++ wP cI cZ q11 q12 q13 q14 q15 q16 q17 S2 : va_W)[i]?) = (([] : va_W) : va_W).map some := rfl
theorem hU_B_alike2_8 (cI cZ cQ : ClassId) (q0 q1 q2 q3 q4 q5 q6 q7 q8 q9 q10 q11 q12 q13 q14 q15 q16 q17 : Nat) (S0 : (Nat → Option Nat)) (S1 : cL) (S2 : cP)  : vz_put (wB cI cZ cQ q0 q1 q2 S0 ++ wL cI cZ q2 q3 q4 q5 q6 q7 q8 q9 q10 S1 ++ wP cI cZ q11 q12 q13 q14 q15 q16 q17 S2 : va_W) [] (([] : va_W) : va_W) = wB cI cZ cQ q0 q1 q2 S0 ++ wL cI cZ q2 q3 q4 q5 q6 q7 q8 q9 q10 S1 ++ wP cI cZ q11 q12 q13 q14 q15 q16 q17 S2 := (show vz_put ([(q0, .inr (3, [.ref q2, .ref q1])), (q1, .inl (cQ, 4, .inr (.inr (.inr (.inr S0))))), (q2, .inr (1, [.ref q3, .ref q4, .ref q5, .ref q6, .ref q7, .ref q8, .ref q9, .ref q10, .int S1.2.2.2.2.2.2.2.2.1, .int S1.2.2.2.2.2.2.2.2.2])), (q3, .inl (cI, 301, .inl S1.1)), (q4, .inl (cI, 301, .inl S1.2.1)), (q5, .inl (cI, 301, .inl S1.2.2.1)), (q6, .inl (cI, 301, .inl S1.2.2.2.1)), (q7, .inl (cI, 301, .inl S1.2.2.2.2.1)), (q8, .inl (cI, 301, .inl S1.2.2.2.2.2.1)), (q9, .inl (cI, 301, .inl S1.2.2.2.2.2.2.1)), (q10, .inl (cI, 300, .inl S1.2.2.2.2.2.2.2.1)), (q11, .inr (2, [.ref q12, .ref q13, .int S2.2.2.1, .int S2.2.2.2.1, .int S2.2.2.2.2])), (q12, .inl (cI, 301, .inl S2.1)), (q13, .inr (0, [.ref q14, .ref q15, .ref q16, .ref q17, .int S2.2.1.2.2.2.2])), (q14, .inl (cZ, 40, .inl S2.2.1.1)), (q15, .inl (cI, 40, .inl S2.2.1.2.1)), (q16, .inl (cI, 40, .inl S2.2.1.2.2.1)), (q17, .inl (cI, 40, .inl S2.2.1.2.2.2.1))] : va_W) [] ([] : va_W) = [(q0, .inr (3, [.ref q2, .ref q1])), (q1, .inl (cQ, 4, .inr (.inr (.inr (.inr S0))))), (q2, .inr (1, [.ref q3, .ref q4, .ref q5, .ref q6, .ref q7, .ref q8, .ref q9, .ref q10, .int S1.2.2.2.2.2.2.2.2.1, .int S1.2.2.2.2.2.2.2.2.2])), (q3, .inl (cI, 301, .inl S1.1)), (q4, .inl (cI, 301, .inl S1.2.1)), (q5, .inl (cI, 301, .inl S1.2.2.1)), (q6, .inl (cI, 301, .inl S1.2.2.2.1)), (q7, .inl (cI, 301, .inl S1.2.2.2.2.1)), (q8, .inl (cI, 301, .inl S1.2.2.2.2.2.1)), (q9, .inl (cI, 301, .inl S1.2.2.2.2.2.2.1)), (q10, .inl (cI, 300, .inl S1.2.2.2.2.2.2.2.1)), (q11, .inr (2, [.ref q12, .ref q13, .int S2.2.2.1, .int S2.2.2.2.1, .int S2.2.2.2.2])), (q12, .inl (cI, 301, .inl S2.1)), (q13, .inr (0, [.ref q14, .ref q15, .ref q16, .ref q17, .int S2.2.1.2.2.2.2])), (q14, .inl (cZ, 40, .inl S2.2.1.1)), (q15, .inl (cI, 40, .inl S2.2.1.2.1)), (q16, .inl (cI, 40, .inl S2.2.1.2.2.1)), (q17, .inl (cI, 40, .inl S2.2.1.2.2.2.1))] from rfl).trans rfl
theorem hC_B_alike2_32 (cI cZ cQ : ClassId) (q0 q1 q2 q3 q4 q5 q6 q7 q8 q9 q10 q11 q12 q13 q14 q15 q16 q17 : Nat) (S0 : (Nat → Option Nat)) (S1 : cL) (S2 : cP) : ([13, 14, 15, 16, 17] : List Nat).map (fun i => (wB cI cZ cQ q0 q1 q2 S0 ++ wL cI cZ q2 q3 q4 q5 q6 q7 q8 q9 q10 S1 ++ wP cI cZ q11 q12 q13 q14 q15 q16 q17 S2 : va_W)[i]?) = (wT cI cZ q13 q14 q15 q16 q17 S2.2.1 : va_W).map some := rfl
theorem hF_T_sameAs2 (cI cZ cQ : ClassId) {h0 a1 a2 a3 a4 : Nat} (S0 R0 : cT) : (wT cI cZ h0 a1 a2 a3 a4 R0 : va_W).map Prod.fst = (wT cI cZ h0 a1 a2 a3 a4 S0 : va_W).map Prod.fst := rfl
theorem hU_B_alike2_32 (cI cZ cQ : ClassId) (q0 q1 q2 q3 q4 q5 q6 q7 q8 q9 q10 q11 q12 q13 q14 q15 q16 q17 : Nat) (S0 : (Nat → Option Nat)) (S1 : cL) (S2 : cP)  : vz_put (wB cI cZ cQ q0 q1 q2 S0 ++ wL cI cZ q2 q3 q4 q5 q6 q7 q8 q9 q10 S1 ++ wP cI cZ q11 q12 q13 q14 q15 q16 q17 S2 : va_W) [13, 14, 15, 16, 17] (wT cI cZ q13 q14 q15 q16 q17 S2.2.1 : va_W) = wB cI cZ cQ q0 q1 q2 S0 ++ wL cI cZ q2 q3 q4 q5 q6 q7 q8 q9 q10 S1 ++ wP cI cZ q11 q12 q13 q14 q15 q16 q17 S2 := (show vz_put ([(q0, .inr (3, [.ref q2, .ref q1])), (q1, .inl (cQ, 4, .inr (.inr (.inr (.inr S0))))), (q2, .inr (1, [.ref q3, .ref q4, .ref q5, .ref q6, .ref q7, .ref q8, .ref q9, .ref q10, .int S1.2.2.2.2.2.2.2.2.1, .int S1.2.2.2.2.2.2.2.2.2])), (q3, .inl (cI, 301, .inl S1.1)), (q4, .inl (cI, 301, .inl S1.2.1)), (q5, .inl (cI, 301, .inl S1.2.2.1)), (q6, .inl (cI, 301, .inl S1.2.2.2.1)), (q7, .inl (cI, 301, .inl S1.2.2.2.2.1)), (q8, .inl (cI, 301, .inl S1.2.2.2.2.2.1)), (q9, .inl (cI, 301, .inl S1.2.2.2.2.2.2.1)), (q10, .inl (cI, 300, .inl S1.2.2.2.2.2.2.2.1)), (q11, .inr (2, [.ref q12, .ref q13, .int S2.2.2.1, .int S2.2.2.2.1, .int S2.2.2.2.2])), (q12, .inl (cI, 301, .inl S2.1)), (q13, .inr (0, [.ref q14, .ref q15, .ref q16, .ref q17, .int S2.2.1.2.2.2.2])), (q14, .inl (cZ, 40, .inl S2.2.1.1)), (q15, .inl (cI, 40, .inl S2.2.1.2.1)), (q16, .inl (cI, 40, .inl S2.2.1.2.2.1)), (q17, .inl (cI, 40, .inl S2.2.1.2.2.2.1))] : va_W) [13, 14, 15, 16, 17] ([(q13, .inr (0, [.ref q14, .ref q15, .ref q16, .ref q17, .int S2.2.1.2.2.2.2])), (q14, .inl (cZ, 40, .inl S2.2.1.1)), (q15, .inl (cI, 40, .inl S2.2.1.2.1)), (q16, .inl (cI, 40, .inl S2.2.1.2.2.1)), (q17, .inl (cI, 40, .inl S2.2.1.2.2.2.1))] : va_W) = [(q0, .inr (3, [.ref q2, .ref q1])), (q1, .inl (cQ, 4, .inr (.inr (.inr (.inr S0))))), (q2, .inr (1, [.ref q3, .ref q4, .ref q5, .ref q6, .ref q7, .ref q8, .ref q9, .ref q10, .int S1.2.2.2.2.2.2.2.2.1, .int S1.2.2.2.2.2.2.2.2.2])), (q3, .inl (cI, 301, .inl S1.1)), (q4, .inl (cI, 301, .inl S1.2.1)), (q5, .inl (cI, 301, .inl S1.2.2.1)), (q6, .inl (cI, 301, .inl S1.2.2.2.1)), (q7, .inl (cI, 301, .inl S1.2.2.2.2.1)), (q8, .inl (cI, 301, .inl S1.2.2.2.2.2.1)), (q9, .inl (cI, 301, .inl S1.2.2.2.2.2.2.1)), (q10, .inl (cI, 300, .inl S1.2.2.2.2.2.2.2.1)), (q11, .inr (2, [.ref q12, .ref q13, .int S2.2.2.1, .int S2.2.2.2.1, .int S2.2.2.2.2])), (q12, .inl (cI, 301, .inl S2.1)), (q13, .inr (0, [.ref q14, .ref q15, .ref q16, .ref q17, .int S2.2.1.2.2.2.2])), (q14, .inl (cZ, 40, .inl S2.2.1.1)), (q15, .inl (cI, 40, .inl S2.2.1.2.1)), (q16, .inl (cI, 40, .inl S2.2.1.2.2.1)), (q17, .inl (cI, 40, .inl S2.2.1.2.2.2.1))] from rfl).trans rfl
def m_B_alike2 (L : cL) (P : cP) (x1 : Int32) : Int32 := (if (m_B_isNode x1) = 0 then 0 else (if (m_B_isNode x1) = 0 then 0 else (if (m_T_sameAs2 P.2.1) = 0 then 0 else 1)))
set_option maxHeartbeats 1000000 in
set_option maxRecDepth 100000 in
theorem c_B_alike2 (l : Launch) (dC : Nat → ClassId) (dI : Nat → Nat → Nat) (cI cZ cQ : ClassId) (b0 : Nat) (b1 : Nat) (F : Nat → Option Nat) (u0 : Nat) (u1 : Nat) (u2 : Nat) (u3 : Nat) (u4 : Nat) (u5 : Nat) (u6 : Nat) (u7 : Nat) (u8 : Nat) (L : cL) (p0 : Nat) (p1 : Nat) (h0 : Nat) (a1 : Nat) (a2 : Nat) (a3 : Nat) (a4 : Nat) (P : cP) (x1 : Int32) (hF : 0 ≤ x1.toInt → x1.toInt < 4 → F x1.toNatClampNeg = some p0) (hok : okT P.2.1) : vz_C l (dC, dI) classes [(cI, .int), (cZ, .boolean), (cQ, .object "BinTrees$Person")] y_B_alike (Cond.code y_B_alike b_B_alike 3 (some .boolean) :: vz_tbl) ({ frames := 2, cells := 0, slots := 0, locals := 45 }) [.ref b0, .int x1, .int x1] (wB cI cZ cQ b0 b1 u0 F ++ wL cI cZ u0 u1 u2 u3 u4 u5 u6 u7 u8 L ++ wP cI cZ p0 p1 h0 a1 a2 a3 a4 P) (some (.int (m_B_alike2 L P x1))) (wB cI cZ cQ b0 b1 u0 F ++ wL cI cZ u0 u1 u2 u3 u4 u5 u6 u7 u8 L ++ wP cI cZ p0 p1 h0 a1 a2 a3 a4 P) := by
  generalize hres : (m_B_alike2 L P x1) = RES
  refine vz_C.of (by decide) (Nat.le_of_ble_eq_true rfl) ?_
  intro p e s m below meth c ls E hl hK hP hD hS
  obtain ⟨hx, hb, hr, hml, hown, hT, hlocks⟩ := E
  obtain ⟨Q, hQ⟩ : ∃ Q, Q = MQ below (vz_Q (dC, dI) classes (wB cI cZ cQ b0 b1 u0 F ++ wL cI cZ u0 u1 u2 u3 u4 u5 u6 u7 u8 L ++ wP cI cZ p0 p1 h0 a1 a2 a3 a4 P) (some (.int RES)) (wB cI cZ cQ b0 b1 u0 F ++ wL cI cZ u0 u1 u2 u3 u4 u5 u6 u7 u8 L ++ wP cI cZ p0 p1 h0 a1 a2 a3 a4 P)) ([.ref b0, .int x1, .int x1] : List Value).toArray s 0 0 (vz_A (wB cI cZ cQ b0 b1 u0 F ++ wL cI cZ u0 u1 u2 u3 u4 u5 u6 u7 u8 L ++ wP cI cZ p0 p1 h0 a1 a2 a3 a4 P)) := ⟨_, rfl⟩
  rw [← hQ]
  have hl : lv_has ls 3 [(0, .ref b0), (1, .int x1), (2, .int x1)] := hl
  have T0 := ti_0
  have T1 := ti_1
  have Tm := ti_m1
  have T8 := ti_8
  have T39 := ti_39
  have T40 := ti_40
  have T4 := ti_4
  have T300 := ti_300
  have hS0 := hS
  refine lv_iload_n hx hb d_B_alike_0 rfl (lv_at hl 1 rfl) ?_
  have hc := c_B_isNode l dC dI cI cZ cQ x1 
  generalize hg_1 : (m_B_isNode x1) = g_1 at hc
  refine vz_callS (As := [.int x1]) (rest := []) ⟨hx, hb, hml, hown, hT⟩ hc (vz_goodS kw_143 kw_144 kw_1 kw_145) hd_B_isNode ⟨⟨rfl, rfl⟩, Nat.le_of_ble_eq_true rfl, Nat.le_of_ble_eq_true rfl⟩ hK hP hD hS [] rfl (hC_B_alike2_1 cI cZ cQ b0 b1 u0 u1 u2 u3 u4 u5 u6 u7 u8 p0 p1 h0 a1 a2 a3 a4 F L P) (hF_B_isNode cI cZ cQ ) rfl hl.1 rfl (Nat.le_of_ble_eq_true rfl) ⟨Nat.zero_le _, Nat.zero_le _⟩ d_B_alike_1 (fun H locs hP hD hS => ?_)
  have hP : va_P (dC, dI) classes (wB cI cZ cQ b0 b1 u0 F ++ wL cI cZ u0 u1 u2 u3 u4 u5 u6 u7 u8 L ++ wP cI cZ p0 p1 h0 a1 a2 a3 a4 P) H := vz_reP (hU_B_alike2_1 cI cZ cQ b0 b1 u0 u1 u2 u3 u4 u5 u6 u7 u8 p0 p1 h0 a1 a2 a3 a4 F L P ) hP
  have hD : va_D (vz_A (wB cI cZ cQ b0 b1 u0 F ++ wL cI cZ u0 u1 u2 u3 u4 u5 u6 u7 u8 L ++ wP cI cZ p0 p1 h0 a1 a2 a3 a4 P)) (wB cI cZ cQ b0 b1 u0 F ++ wL cI cZ u0 u1 u2 u3 u4 u5 u6 u7 u8 L ++ wP cI cZ p0 p1 h0 a1 a2 a3 a4 P) := vz_reD (hU_B_alike2_1 cI cZ cQ b0 b1 u0 u1 u2 u3 u4 u5 u6 u7 u8 p0 p1 h0 a1 a2 a3 a4 F L P ) hD
  refine W.eq (g2 := F0 m 4 ls [.int g_1]) rfl ?_
  refine lv_if_eq (tgt := 42) hx hb d_B_alike_4 (by decide) (fun c_4 => ?_) (fun c_4 => ?_)
  · have z_4 : g_1.toInt = (0 : Int32).toInt := congrArg Int32.toInt c_4
    refine lv_iconst (v := 0) hx hb d_B_alike_42 (by decide) ?_
    rw [m_B_alike2] at hres
    try rw [hg_1] at hres
    rw [if_pos c_4] at hres
    subst hres
    subst hQ
    exact vz_zret hx hb hr (by decide) hlocks d_B_alike_43 hS rfl hP
  · have z_4 : ¬ g_1.toInt = (0 : Int32).toInt := mt Int32.toInt_inj.mp c_4
    refine lv_iload_n hx hb d_B_alike_7 rfl (lv_at hl 2 rfl) ?_
    have hc := c_B_isNode l dC dI cI cZ cQ x1 
    rw [hg_1] at hc
    refine vz_callS (As := [.int x1]) (rest := []) ⟨hx, hb, hml, hown, hT⟩ hc (vz_goodS kw_143 kw_144 kw_1 kw_145) hd_B_isNode ⟨⟨rfl, rfl⟩, Nat.le_of_ble_eq_true rfl, Nat.le_of_ble_eq_true rfl⟩ hK hP hD hS [] rfl (hC_B_alike2_8 cI cZ cQ b0 b1 u0 u1 u2 u3 u4 u5 u6 u7 u8 p0 p1 h0 a1 a2 a3 a4 F L P) (hF_B_isNode cI cZ cQ ) rfl hl.1 rfl (Nat.le_of_ble_eq_true rfl) ⟨Nat.zero_le _, Nat.zero_le _⟩ d_B_alike_8 (fun H locs hP hD hS => ?_)
    have hP : va_P (dC, dI) classes (wB cI cZ cQ b0 b1 u0 F ++ wL cI cZ u0 u1 u2 u3 u4 u5 u6 u7 u8 L ++ wP cI cZ p0 p1 h0 a1 a2 a3 a4 P) H := vz_reP (hU_B_alike2_8 cI cZ cQ b0 b1 u0 u1 u2 u3 u4 u5 u6 u7 u8 p0 p1 h0 a1 a2 a3 a4 F L P ) hP
    have hD : va_D (vz_A (wB cI cZ cQ b0 b1 u0 F ++ wL cI cZ u0 u1 u2 u3 u4 u5 u6 u7 u8 L ++ wP cI cZ p0 p1 h0 a1 a2 a3 a4 P)) (wB cI cZ cQ b0 b1 u0 F ++ wL cI cZ u0 u1 u2 u3 u4 u5 u6 u7 u8 L ++ wP cI cZ p0 p1 h0 a1 a2 a3 a4 P) := vz_reD (hU_B_alike2_8 cI cZ cQ b0 b1 u0 u1 u2 u3 u4 u5 u6 u7 u8 p0 p1 h0 a1 a2 a3 a4 F L P ) hD
    refine W.eq (g2 := F0 m 11 ls [.int g_1]) rfl ?_
    refine lv_if_eq (tgt := 42) hx hb d_B_alike_11 (by decide) (fun c_11 => ?_) (fun c_11 => ?_)
    · have z_11 : g_1.toInt = (0 : Int32).toInt := congrArg Int32.toInt c_11
      refine lv_iconst (v := 0) hx hb d_B_alike_42 (by decide) ?_
      rw [m_B_alike2] at hres
      try rw [hg_1] at hres
      rw [if_neg c_4, if_pos c_11] at hres
      subst hres
      subst hQ
      exact vz_zret hx hb hr (by decide) hlocks d_B_alike_43 hS rfl hP
    · have z_11 : ¬ g_1.toInt = (0 : Int32).toInt := mt Int32.toInt_inj.mp c_11
      refine lv_aload_n hx hb d_B_alike_14 rfl (lv_at hl 0 rfl) ?_
      refine va_get (D := (dC, dI)) (ci := 3) (v := .ref b1) (C := R_B) (T := F_B) (N := 2) hx hb hT i_B hown hK hP 0 rfl rfl 1 (by decide) (hT _ kw_129) (fun _ h9 => h9) rfl d_B_alike_15 ?_
      refine lv_iload_n hx hb d_B_alike_18 rfl (lv_at hl 1 rfl) ?_
      refine va_aldq hx hb hK hP 1 2 rfl rfl (by have hn := isn_t (x0 := x1) (by rw [hg_1]; assumption); exact ti_vp (by omega) (by omega)) d_B_alike_19 ?_
      rw [show va_rf (F x1.toNatClampNeg) = .ref p0 from by have hn := isn_t (x0 := x1) (by rw [hg_1]; assumption); rw [hF hn.1 hn.2]; rfl]
      refine va_get (D := (dC, dI)) (ci := 2) (v := .ref h0) (C := R_P) (T := F_P) (N := 5) hx hb hT i_P hown hK hP 11 rfl rfl 1 (by decide) (hT _ kw_110) (fun _ h9 => h9) rfl d_B_alike_20 ?_
      refine lv_aload_n hx hb d_B_alike_23 rfl (lv_at hl 0 rfl) ?_
      refine va_get (D := (dC, dI)) (ci := 3) (v := .ref b1) (C := R_B) (T := F_B) (N := 2) hx hb hT i_B hown hK hP 0 rfl rfl 1 (by decide) (hT _ kw_129) (fun _ h9 => h9) rfl d_B_alike_24 ?_
      refine lv_iload_n hx hb d_B_alike_27 rfl (lv_at hl 2 rfl) ?_
      refine va_aldq hx hb hK hP 1 2 rfl rfl (by have hn := isn_t (x0 := x1) (by rw [hg_1]; assumption); exact ti_vp (by omega) (by omega)) d_B_alike_28 ?_
      rw [show va_rf (F x1.toNatClampNeg) = .ref p0 from by have hn := isn_t (x0 := x1) (by rw [hg_1]; assumption); rw [hF hn.1 hn.2]; rfl]
      refine va_get (D := (dC, dI)) (ci := 2) (v := .ref h0) (C := R_P) (T := F_P) (N := 5) hx hb hT i_P hown hK hP 11 rfl rfl 1 (by decide) (hT _ kw_110) (fun _ h9 => h9) rfl d_B_alike_29 ?_
      have hc := c_T_sameAs2 l dC dI cI cZ cQ h0 a1 a2 a3 a4 P.2.1 (hok)
      generalize hg_32 : (m_T_sameAs2 P.2.1) = g_32 at hc
      refine vz_callV (As := [.ref h0]) (rest := []) ⟨hx, hb, hml, hown, hT⟩ hc (vz_goodV kw_301 kw_302 kw_303 kw_4 kw_304) ⟨rfl, hd_T_sameAs⟩ ⟨⟨rfl, rfl⟩, Nat.le_of_ble_eq_true rfl, Nat.le_of_ble_eq_true rfl⟩ hK hP hD hS [13, 14, 15, 16, 17] rfl (hC_B_alike2_32 cI cZ cQ b0 b1 u0 u1 u2 u3 u4 u5 u6 u7 u8 p0 p1 h0 a1 a2 a3 a4 F L P) (hF_T_sameAs2 cI cZ cQ _ _) 0 0 rfl rfl rfl rfl hl.1 rfl (Nat.le_of_ble_eq_true rfl) ⟨Nat.zero_le _, Nat.zero_le _⟩ d_B_alike_32 (fun H locs hP hD hS => ?_)
      have hP : va_P (dC, dI) classes (wB cI cZ cQ b0 b1 u0 F ++ wL cI cZ u0 u1 u2 u3 u4 u5 u6 u7 u8 L ++ wP cI cZ p0 p1 h0 a1 a2 a3 a4 P) H := vz_reP (hU_B_alike2_32 cI cZ cQ b0 b1 u0 u1 u2 u3 u4 u5 u6 u7 u8 p0 p1 h0 a1 a2 a3 a4 F L P ) hP
      have hD : va_D (vz_A (wB cI cZ cQ b0 b1 u0 F ++ wL cI cZ u0 u1 u2 u3 u4 u5 u6 u7 u8 L ++ wP cI cZ p0 p1 h0 a1 a2 a3 a4 P)) (wB cI cZ cQ b0 b1 u0 F ++ wL cI cZ u0 u1 u2 u3 u4 u5 u6 u7 u8 L ++ wP cI cZ p0 p1 h0 a1 a2 a3 a4 P) := vz_reD (hU_B_alike2_32 cI cZ cQ b0 b1 u0 u1 u2 u3 u4 u5 u6 u7 u8 p0 p1 h0 a1 a2 a3 a4 F L P ) hD
      refine W.eq (g2 := F0 m 35 ls [.int g_32]) rfl ?_
      refine lv_if_eq (tgt := 42) hx hb d_B_alike_35 (by decide) (fun c_35 => ?_) (fun c_35 => ?_)
      · have z_35 : g_32.toInt = (0 : Int32).toInt := congrArg Int32.toInt c_35
        refine lv_iconst (v := 0) hx hb d_B_alike_42 (by decide) ?_
        rw [m_B_alike2] at hres
        try rw [hg_1] at hres
        rw [if_neg c_4, if_neg c_11] at hres
        try rw [hg_32] at hres
        rw [if_pos c_35] at hres
        subst hres
        subst hQ
        exact vz_zret hx hb hr (by decide) hlocks d_B_alike_43 hS rfl hP
      · have z_35 : ¬ g_32.toInt = (0 : Int32).toInt := mt Int32.toInt_inj.mp c_35
        refine lv_iconst (v := 1) hx hb d_B_alike_38 (by decide) ?_
        refine lv_goto (tgt := 43) hx hb d_B_alike_39 (by decide) ?_
        rw [m_B_alike2] at hres
        try rw [hg_1] at hres
        rw [if_neg c_4, if_neg c_11] at hres
        try rw [hg_32] at hres
        rw [if_neg c_35] at hres
        subst hres
        subst hQ
        exact vz_zret hx hb hr (by decide) hlocks d_B_alike_43 hS rfl hP
