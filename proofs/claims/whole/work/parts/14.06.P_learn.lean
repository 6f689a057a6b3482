theorem d_P_learn_0 : decode b_P_learn 0 = .ok (.aload_n 0, 1) := by decide +kernel
theorem d_P_learn_1 : decode b_P_learn 1 = .ok (.getfield 9, 3) := by decide +kernel
theorem d_P_learn_4 : decode b_P_learn 4 = .ok (.iload_n 2, 1) := by decide +kernel
theorem d_P_learn_5 : decode b_P_learn 5 = .ok (.iconst 1, 1) := by decide +kernel
theorem d_P_learn_6 : decode b_P_learn 6 = .ok (.iastore, 1) := by decide +kernel
theorem d_P_learn_7 : decode b_P_learn 7 = .ok (.aload_n 0, 1) := by decide +kernel
theorem d_P_learn_8 : decode b_P_learn 8 = .ok (.dup, 1) := by decide +kernel
theorem d_P_learn_9 : decode b_P_learn 9 = .ok (.getfield 22, 3) := by decide +kernel
theorem d_P_learn_12 : decode b_P_learn 12 = .ok (.iconst 1, 1) := by decide +kernel
theorem d_P_learn_13 : decode b_P_learn 13 = .ok (.iadd, 1) := by decide +kernel
theorem d_P_learn_14 : decode b_P_learn 14 = .ok (.putfield 22, 3) := by decide +kernel
theorem d_P_learn_17 : decode b_P_learn 17 = .ok (.aload_n 0, 1) := by decide +kernel
theorem d_P_learn_18 : decode b_P_learn 18 = .ok (.aload_n 0, 1) := by decide +kernel
theorem d_P_learn_19 : decode b_P_learn 19 = .ok (.getfield 26, 3) := by decide +kernel
theorem d_P_learn_22 : decode b_P_learn 22 = .ok (.aload_n 1, 1) := by decide +kernel
theorem d_P_learn_23 : decode b_P_learn 23 = .ok (.getfield 29, 3) := by decide +kernel
theorem d_P_learn_26 : decode b_P_learn 26 = .ok (.iload_n 2, 1) := by decide +kernel
theorem d_P_learn_27 : decode b_P_learn 27 = .ok (.iaload, 1) := by decide +kernel
theorem d_P_learn_28 : decode b_P_learn 28 = .ok (.invokestatic 33, 3) := by decide +kernel
theorem d_P_learn_31 : decode b_P_learn 31 = .ok (.putfield 26, 3) := by decide +kernel
theorem d_P_learn_34 : decode b_P_learn 34 = .ok (.aload_n 0, 1) := by decide +kernel
theorem d_P_learn_35 : decode b_P_learn 35 = .ok (.aload_n 0, 1) := by decide +kernel
theorem d_P_learn_36 : decode b_P_learn 36 = .ok (.aload_n 1, 1) := by decide +kernel
theorem d_P_learn_37 : decode b_P_learn 37 = .ok (.aload_n 1, 1) := by decide +kernel
theorem d_P_learn_38 : decode b_P_learn 38 = .ok (.getfield 39, 3) := by decide +kernel
theorem d_P_learn_41 : decode b_P_learn 41 = .ok (.iload_n 2, 1) := by decide +kernel
theorem d_P_learn_42 : decode b_P_learn 42 = .ok (.iaload, 1) := by decide +kernel
theorem d_P_learn_43 : decode b_P_learn 43 = .ok (.iconst 4, 1) := by decide +kernel
theorem d_P_learn_44 : decode b_P_learn 44 = .ok (.if_icmp .ne 12, 3) := by decide +kernel
theorem d_P_learn_47 : decode b_P_learn 47 = .ok (.aload_n 1, 1) := by decide +kernel
theorem d_P_learn_48 : decode b_P_learn 48 = .ok (.getfield 42, 3) := by decide +kernel
theorem d_P_learn_51 : decode b_P_learn 51 = .ok (.iload_n 2, 1) := by decide +kernel
theorem d_P_learn_52 : decode b_P_learn 52 = .ok (.iaload, 1) := by decide +kernel
theorem d_P_learn_53 : decode b_P_learn 53 = .ok (.goto 4, 3) := by decide +kernel
theorem d_P_learn_56 : decode b_P_learn 56 = .ok (.iload_n 2, 1) := by decide +kernel
theorem d_P_learn_57 : decode b_P_learn 57 = .ok (.invokevirtual 45, 3) := by decide +kernel
theorem d_P_learn_60 : decode b_P_learn 60 = .ok (.putfield 49, 3) := by decide +kernel
theorem d_P_learn_63 : decode b_P_learn 63 = .ok (.return_, 1) := by decide +kernel
theorem hW_P_learn_6 (cI cZ cQ : ClassId) (q0 q1 q2 q3 q4 q5 q6 q7 q8 q9 q10 q11 q12 q13 q14 q15 : Nat) (S0 : cL) (S1 : cP) (v : cA) : (wL cI cZ q0 q1 q2 q3 q4 q5 q6 q7 q8 S0 ++ wP cI cZ q9 q10 q11 q12 q13 q14 q15 S1 : va_W).set 10 (q10, .inl (cI, 301, .inl v)) = wL cI cZ q0 q1 q2 q3 q4 q5 q6 q7 q8 S0 ++ wP cI cZ q9 q10 q11 q12 q13 q14 q15 (v, S1.2.1, S1.2.2.1, S1.2.2.2.1, S1.2.2.2.2) := rfl
theorem hW_P_learn_14 (cI cZ cQ : ClassId) (q0 q1 q2 q3 q4 q5 q6 q7 q8 q9 q10 q11 q12 q13 q14 q15 : Nat) (S0 : cL) (S1 : cP) (v : Int32) : (wL cI cZ q0 q1 q2 q3 q4 q5 q6 q7 q8 S0 ++ wP cI cZ q9 q10 q11 q12 q13 q14 q15 S1 : va_W).set 9 (q9, .inr (2, [.ref q10, .ref q11, .int S1.2.2.1, .int S1.2.2.2.1, .int S1.2.2.2.2].set 2 (.int v))) = wL cI cZ q0 q1 q2 q3 q4 q5 q6 q7 q8 S0 ++ wP cI cZ q9 q10 q11 q12 q13 q14 q15 (S1.1, S1.2.1, v, S1.2.2.2.1, S1.2.2.2.2) := rfl
theorem hW_P_learn_31 (cI cZ cQ : ClassId) (q0 q1 q2 q3 q4 q5 q6 q7 q8 q9 q10 q11 q12 q13 q14 q15 : Nat) (S0 : cL) (S1 : cP) (v : Int32) : (wL cI cZ q0 q1 q2 q3 q4 q5 q6 q7 q8 S0 ++ wP cI cZ q9 q10 q11 q12 q13 q14 q15 S1 : va_W).set 9 (q9, .inr (2, [.ref q10, .ref q11, .int S1.2.2.1, .int S1.2.2.2.1, .int S1.2.2.2.2].set 3 (.int v))) = wL cI cZ q0 q1 q2 q3 q4 q5 q6 q7 q8 S0 ++ wP cI cZ q9 q10 q11 q12 q13 q14 q15 (S1.1, S1.2.1, S1.2.2.1, v, S1.2.2.2.2) := rfl
theorem hC_P_learn_57 (cI cZ cQ : ClassId) (q0 q1 q2 q3 q4 q5 q6 q7 q8 q9 q10 q11 q12 q13 q14 q15 : Nat) (S0 : cL) (S1 : cP) : ([0, 1, 2, 3, 4, 5, 6, 7, 8, 9, 10, 11, 12, 13, 14, 15] : List Nat).map (fun i => (wL cI cZ q0 q1 q2 q3 q4 q5 q6 q7 q8 S0 ++ wP cI cZ q9 q10 q11 q12 q13 q14 q15 S1 : va_W)[i]?) = (wL cI cZ q0 q1 q2 q3 q4 q5 q6 q7 q8 S0 ++ wP cI cZ q9 q10 q11 q12 q13 q14 q15 S1 : va_W).map some := rfl
theorem hF_P_countFrom (cI cZ cQ : ClassId) {u0 u1 u2 u3 u4 u5 u6 u7 u8 p0 p1 h0 a1 a2 a3 a4 : Nat} (S0 R0 : cL) (S1 R1 : cP) : (wL cI cZ u0 u1 u2 u3 u4 u5 u6 u7 u8 R0 ++ wP cI cZ p0 p1 h0 a1 a2 a3 a4 R1 : va_W).map Prod.fst = (wL cI cZ u0 u1 u2 u3 u4 u5 u6 u7 u8 S0 ++ wP cI cZ p0 p1 h0 a1 a2 a3 a4 S1 : va_W).map Prod.fst := rfl
theorem hU_P_learn_57 (cI cZ cQ : ClassId) (q0 q1 q2 q3 q4 q5 q6 q7 q8 q9 q10 q11 q12 q13 q14 q15 : Nat) (S0 : cL) (S1 : cP)  : vz_put (wL cI cZ q0 q1 q2 q3 q4 q5 q6 q7 q8 S0 ++ wP cI cZ q9 q10 q11 q12 q13 q14 q15 S1 : va_W) [0, 1, 2, 3, 4, 5, 6, 7, 8, 9, 10, 11, 12, 13, 14, 15] (wL cI cZ q0 q1 q2 q3 q4 q5 q6 q7 q8 S0 ++ wP cI cZ q9 q10 q11 q12 q13 q14 q15 S1 : va_W) = wL cI cZ q0 q1 q2 q3 q4 q5 q6 q7 q8 S0 ++ wP cI cZ q9 q10 q11 q12 q13 q14 q15 S1 := (show vz_put ([(q0, .inr (1, [.ref q1, .ref q2, .ref q3, .ref q4, .ref q5, .ref q6, .ref q7, .ref q8, .int S0.2.2.2.2.2.2.2.2.1, .int S0.2.2.2.2.2.2.2.2.2])), (q1, .inl (cI, 301, .inl S0.1)), (q2, .inl (cI, 301, .inl S0.2.1)), (q3, .inl (cI, 301, .inl S0.2.2.1)), (q4, .inl (cI, 301, .inl S0.2.2.2.1)), (q5, .inl (cI, 301, .inl S0.2.2.2.2.1)), (q6, .inl (cI, 301, .inl S0.2.2.2.2.2.1)), (q7, .inl (cI, 301, .inl S0.2.2.2.2.2.2.1)), (q8, .inl (cI, 300, .inl S0.2.2.2.2.2.2.2.1)), (q9, .inr (2, [.ref q10, .ref q11, .int S1.2.2.1, .int S1.2.2.2.1, .int S1.2.2.2.2])), (q10, .inl (cI, 301, .inl S1.1)), (q11, .inr (0, [.ref q12, .ref q13, .ref q14, .ref q15, .int S1.2.1.2.2.2.2])), (q12, .inl (cZ, 40, .inl S1.2.1.1)), (q13, .inl (cI, 40, .inl S1.2.1.2.1)), (q14, .inl (cI, 40, .inl S1.2.1.2.2.1)), (q15, .inl (cI, 40, .inl S1.2.1.2.2.2.1))] : va_W) [0, 1, 2, 3, 4, 5, 6, 7, 8, 9, 10, 11, 12, 13, 14, 15] ([(q0, .inr (1, [.ref q1, .ref q2, .ref q3, .ref q4, .ref q5, .ref q6, .ref q7, .ref q8, .int S0.2.2.2.2.2.2.2.2.1, .int S0.2.2.2.2.2.2.2.2.2])), (q1, .inl (cI, 301, .inl S0.1)), (q2, .inl (cI, 301, .inl S0.2.1)), (q3, .inl (cI, 301, .inl S0.2.2.1)), (q4, .inl (cI, 301, .inl S0.2.2.2.1)), (q5, .inl (cI, 301, .inl S0.2.2.2.2.1)), (q6, .inl (cI, 301, .inl S0.2.2.2.2.2.1)), (q7, .inl (cI, 301, .inl S0.2.2.2.2.2.2.1)), (q8, .inl (cI, 300, .inl S0.2.2.2.2.2.2.2.1)), (q9, .inr (2, [.ref q10, .ref q11, .int S1.2.2.1, .int S1.2.2.2.1, .int S1.2.2.2.2])), (q10, .inl (cI, 301, .inl S1.1)), (q11, .inr (0, [.ref q12, .ref q13, .ref q14, .ref q15, .int S1.2.1.2.2.2.2])), (q12, .inl (cZ, 40, .inl S1.2.1.1)), (q13, .inl (cI, 40, .inl S1.2.1.2.1)), (q14, .inl (cI, 40, .inl S1.2.1.2.2.1)), (q15, .inl (cI, 40, .inl S1.2.1.2.2.2.1))] : va_W) = [(q0, .inr (1, [.ref q1, .ref q2, .ref q3, .ref q4, .ref q5, .ref q6, .ref q7, .ref q8, .int S0.2.2.2.2.2.2.2.2.1, .int S0.2.2.2.2.2.2.2.2.2])), (q1, .inl (cI, 301, .inl S0.1)), (q2, .inl (cI, 301, .inl S0.2.1)), (q3, .inl (cI, 301, .inl S0.2.2.1)), (q4, .inl (cI, 301, .inl S0.2.2.2.1)), (q5, .inl (cI, 301, .inl S0.2.2.2.2.1)), (q6, .inl (cI, 301, .inl S0.2.2.2.2.2.1)), (q7, .inl (cI, 301, .inl S0.2.2.2.2.2.2.1)), (q8, .inl (cI, 300, .inl S0.2.2.2.2.2.2.2.1)), (q9, .inr (2, [.ref q10, .ref q11, .int S1.2.2.1, .int S1.2.2.2.1, .int S1.2.2.2.2])), (q10, .inl (cI, 301, .inl S1.1)), (q11, .inr (0, [.ref q12, .ref q13, .ref q14, .ref q15, .int S1.2.1.2.2.2.2])), (q12, .inl (cZ, 40, .inl S1.2.1.1)), (q13, .inl (cI, 40, .inl S1.2.1.2.1)), (q14, .inl (cI, 40, .inl S1.2.1.2.2.1)), (q15, .inl (cI, 40, .inl S1.2.1.2.2.2.1))] from rfl).trans rfl
theorem hW_P_learn_60 (cI cZ cQ : ClassId) (q0 q1 q2 q3 q4 q5 q6 q7 q8 q9 q10 q11 q12 q13 q14 q15 : Nat) (S0 : cL) (S1 : cP) (v : Int32) : (wL cI cZ q0 q1 q2 q3 q4 q5 q6 q7 q8 S0 ++ wP cI cZ q9 q10 q11 q12 q13 q14 q15 S1 : va_W).set 9 (q9, .inr (2, [.ref q10, .ref q11, .int S1.2.2.1, .int S1.2.2.2.1, .int S1.2.2.2.2].set 4 (.int v))) = wL cI cZ q0 q1 q2 q3 q4 q5 q6 q7 q8 S0 ++ wP cI cZ q9 q10 q11 q12 q13 q14 q15 (S1.1, S1.2.1, S1.2.2.1, S1.2.2.2.1, v) := rfl
def m_P_learn (L : cL) (P : cP) (x2 : Int32) : cP := (if (L.1 x2.toNatClampNeg) = 4 then (upd P.1 x2.toNatClampNeg 1, P.2.1, P.2.2.1 + 1, if P.2.2.2.1 < (L.2.2.1 x2.toNatClampNeg) then (L.2.2.1 x2.toNatClampNeg) else P.2.2.2.1, (m_P_countFrom L (upd P.1 x2.toNatClampNeg 1, P.2.1, P.2.2.1 + 1, if P.2.2.2.1 < (L.2.2.1 x2.toNatClampNeg) then (L.2.2.1 x2.toNatClampNeg) else P.2.2.2.1, P.2.2.2.2) (L.2.2.2.1 x2.toNatClampNeg))) else (upd P.1 x2.toNatClampNeg 1, P.2.1, P.2.2.1 + 1, if P.2.2.2.1 < (L.2.2.1 x2.toNatClampNeg) then (L.2.2.1 x2.toNatClampNeg) else P.2.2.2.1, (m_P_countFrom L (upd P.1 x2.toNatClampNeg 1, P.2.1, P.2.2.1 + 1, if P.2.2.2.1 < (L.2.2.1 x2.toNatClampNeg) then (L.2.2.1 x2.toNatClampNeg) else P.2.2.2.1, P.2.2.2.2) x2)))
set_option maxHeartbeats 1000000 in
set_option maxRecDepth 100000 in
theorem c_P_learn (l : Launch) (dC : Nat → ClassId) (dI : Nat → Nat → Nat) (cI cZ cQ : ClassId) (u0 : Nat) (u1 : Nat) (u2 : Nat) (u3 : Nat) (u4 : Nat) (u5 : Nat) (u6 : Nat) (u7 : Nat) (u8 : Nat) (L : cL) (p0 : Nat) (p1 : Nat) (h0 : Nat) (a1 : Nat) (a2 : Nat) (a3 : Nat) (a4 : Nat) (P : cP) (x2 : Int32) (hcnt : 0 ≤ L.2.2.2.2.2.2.2.2.1.toInt ∧ L.2.2.2.2.2.2.2.2.1.toInt ≤ 300) (hord : ∀ j, j < 300 → 0 ≤ (L.2.2.2.2.2.2.2.1 j).toInt ∧ (L.2.2.2.2.2.2.2.1 j).toInt < 301) (h2 : 0 ≤ x2.toInt ∧ x2.toInt < 301) (hsub : L.1 x2.toNatClampNeg = 4 → 0 ≤ (L.2.2.2.1 x2.toNatClampNeg).toInt ∧ (L.2.2.2.1 x2.toNatClampNeg).toInt < 301) : vz_C l (dC, dI) classes [(cI, .int), (cZ, .boolean), (cQ, .object "BinTrees$Person")] y_P_learn (Cond.code y_P_learn b_P_learn 3 none :: vz_tbl) ({ frames := 2, cells := 0, slots := 0, locals := 46 }) [.ref p0, .ref u0, .int x2] (wL cI cZ u0 u1 u2 u3 u4 u5 u6 u7 u8 L ++ wP cI cZ p0 p1 h0 a1 a2 a3 a4 P) (none) (wL cI cZ u0 u1 u2 u3 u4 u5 u6 u7 u8 L ++ wP cI cZ p0 p1 h0 a1 a2 a3 a4 (m_P_learn L P x2)) := by
  generalize hres : (m_P_learn L P x2) = RES
  refine vz_C.of (by decide) (Nat.le_of_ble_eq_true rfl) ?_
  intro p e s m below meth c ls E hl hK hP hD hS
  obtain ⟨hx, hb, hr, hml, hown, hT, hlocks⟩ := E
  obtain ⟨Q, hQ⟩ : ∃ Q, Q = MQ below (vz_Q (dC, dI) classes (wL cI cZ u0 u1 u2 u3 u4 u5 u6 u7 u8 L ++ wP cI cZ p0 p1 h0 a1 a2 a3 a4 P) (none) (wL cI cZ u0 u1 u2 u3 u4 u5 u6 u7 u8 L ++ wP cI cZ p0 p1 h0 a1 a2 a3 a4 RES)) ([.ref p0, .ref u0, .int x2] : List Value).toArray s 0 0 (vz_A (wL cI cZ u0 u1 u2 u3 u4 u5 u6 u7 u8 L ++ wP cI cZ p0 p1 h0 a1 a2 a3 a4 P)) := ⟨_, rfl⟩
  rw [← hQ]
  have hl : lv_has ls 3 [(0, .ref p0), (1, .ref u0), (2, .int x2)] := hl
  have T0 := ti_0
  have T1 := ti_1
  have Tm := ti_m1
  have T8 := ti_8
  have T39 := ti_39
  have T40 := ti_40
  have T4 := ti_4
  have T300 := ti_300
  have hS0 := hS
  refine lv_aload_n hx hb d_P_learn_0 rfl (lv_at hl 0 rfl) ?_
  refine va_get (D := (dC, dI)) (ci := 2) (v := .ref p1) (C := R_P) (T := F_P) (N := 5) hx hb hT i_P hown hK hP 9 rfl rfl 0 (by decide) (hT _ kw_107) (fun _ h9 => h9) rfl d_P_learn_1 ?_
  refine lv_iload_n hx hb d_P_learn_4 rfl (lv_at hl 2 rfl) ?_
  refine lv_iconst (v := 1) hx hb d_P_learn_5 (by decide) ?_
  refine va_iast hx hb hK hP hD hS 10 0 rfl rfl (ti_vp (by omega) (by omega)) d_P_learn_6 (fun H locs hP hD hS => ?_)
  have hP : va_P (dC, dI) classes (wL cI cZ u0 u1 u2 u3 u4 u5 u6 u7 u8 L ++ wP cI cZ p0 p1 h0 a1 a2 a3 a4 (upd P.1 x2.toNatClampNeg 1, P.2.1, P.2.2.1, P.2.2.2.1, P.2.2.2.2)) H := vz_reP (hW_P_learn_6 cI cZ cQ u0 u1 u2 u3 u4 u5 u6 u7 u8 p0 p1 h0 a1 a2 a3 a4 L P (upd P.1 x2.toNatClampNeg 1)) hP
  have hD : va_D (vz_A (wL cI cZ u0 u1 u2 u3 u4 u5 u6 u7 u8 L ++ wP cI cZ p0 p1 h0 a1 a2 a3 a4 P)) (wL cI cZ u0 u1 u2 u3 u4 u5 u6 u7 u8 L ++ wP cI cZ p0 p1 h0 a1 a2 a3 a4 (upd P.1 x2.toNatClampNeg 1, P.2.1, P.2.2.1, P.2.2.2.1, P.2.2.2.2)) := vz_reD (hW_P_learn_6 cI cZ cQ u0 u1 u2 u3 u4 u5 u6 u7 u8 p0 p1 h0 a1 a2 a3 a4 L P (upd P.1 x2.toNatClampNeg 1)) hD
  refine lv_aload_n hx hb d_P_learn_7 rfl (lv_at hl 0 rfl) ?_
  refine lv_dup hx hb d_P_learn_8 rfl ?_
  refine va_get (D := (dC, dI)) (ci := 2) (v := .int P.2.2.1) (C := R_P) (T := F_P) (N := 5) hx hb hT i_P hown hK hP 9 rfl rfl 2 (by decide) (hT _ kw_111) (fun _ h9 => h9) rfl d_P_learn_9 ?_
  refine lv_iconst (v := 1) hx hb d_P_learn_12 (by decide) ?_
  refine lv_iadd hx hb d_P_learn_13 ?_
  refine va_put (D := (dC, dI)) (ci := 2) (v := .int (P.2.2.1 + 1)) (ty := .int) (C := R_P) (T := F_P) (N := 5) hx hb hT i_P tt_P tt_P_ok n_P hown hK hP hD hS 9 rfl rfl 2 (by decide) (hT _ kw_111) (fun _ h9 => h9) rfl (by decide +kernel) rfl rfl (Nat.le_of_ble_eq_true rfl) d_P_learn_14 (fun H locs hP hD hS => ?_)
  have hP : va_P (dC, dI) classes (wL cI cZ u0 u1 u2 u3 u4 u5 u6 u7 u8 L ++ wP cI cZ p0 p1 h0 a1 a2 a3 a4 (upd P.1 x2.toNatClampNeg 1, P.2.1, P.2.2.1 + 1, P.2.2.2.1, P.2.2.2.2)) H := vz_reP (hW_P_learn_14 cI cZ cQ u0 u1 u2 u3 u4 u5 u6 u7 u8 p0 p1 h0 a1 a2 a3 a4 L (upd P.1 x2.toNatClampNeg 1, P.2.1, P.2.2.1, P.2.2.2.1, P.2.2.2.2) (P.2.2.1 + 1)) hP
  have hD : va_D (vz_A (wL cI cZ u0 u1 u2 u3 u4 u5 u6 u7 u8 L ++ wP cI cZ p0 p1 h0 a1 a2 a3 a4 P)) (wL cI cZ u0 u1 u2 u3 u4 u5 u6 u7 u8 L ++ wP cI cZ p0 p1 h0 a1 a2 a3 a4 (upd P.1 x2.toNatClampNeg 1, P.2.1, P.2.2.1 + 1, P.2.2.2.1, P.2.2.2.2)) := vz_reD (hW_P_learn_14 cI cZ cQ u0 u1 u2 u3 u4 u5 u6 u7 u8 p0 p1 h0 a1 a2 a3 a4 L (upd P.1 x2.toNatClampNeg 1, P.2.1, P.2.2.1, P.2.2.2.1, P.2.2.2.2) (P.2.2.1 + 1)) hD
  refine lv_aload_n hx hb d_P_learn_17 rfl (lv_at hl 0 rfl) ?_
  refine lv_aload_n hx hb d_P_learn_18 rfl (lv_at hl 0 rfl) ?_
  refine va_get (D := (dC, dI)) (ci := 2) (v := .int P.2.2.2.1) (C := R_P) (T := F_P) (N := 5) hx hb hT i_P hown hK hP 9 rfl rfl 3 (by decide) (hT _ kw_114) (fun _ h9 => h9) rfl d_P_learn_19 ?_
  refine lv_aload_n hx hb d_P_learn_22 rfl (lv_at hl 1 rfl) ?_
  refine va_get (D := (dC, dI)) (ci := 1) (v := .ref u3) (C := R_L) (T := F_L) (N := 10) hx hb hT i_L hown hK hP 0 rfl rfl 2 (by decide) (hT _ kw_27) (fun _ h9 => h9) rfl d_P_learn_23 ?_
  refine lv_iload_n hx hb d_P_learn_26 rfl (lv_at hl 2 rfl) ?_
  refine va_iald hx hb hK hP 3 0 rfl rfl (ti_vp (by omega) (by omega)) d_P_learn_27 ?_
  refine va_mmax hx hb (hml.trans hl.1.symm) hown (hT _ kw_166) (hT _ kw_167) (hT _ kw_6) (hT _ kw_168) (Nat.le_of_ble_eq_true rfl) (Nat.le_of_ble_eq_true rfl) (Nat.zero_le _) (Nat.zero_le _) d_P_learn_28 ?_
  refine va_put (D := (dC, dI)) (ci := 2) (v := .int (if P.2.2.2.1 < (L.2.2.1 x2.toNatClampNeg) then (L.2.2.1 x2.toNatClampNeg) else P.2.2.2.1)) (ty := .int) (C := R_P) (T := F_P) (N := 5) hx hb hT i_P tt_P tt_P_ok n_P hown hK hP hD hS 9 rfl rfl 3 (by decide) (hT _ kw_114) (fun _ h9 => h9) rfl (by decide +kernel) rfl rfl (Nat.le_of_ble_eq_true rfl) d_P_learn_31 (fun H locs hP hD hS => ?_)
  have hP : va_P (dC, dI) classes (wL cI cZ u0 u1 u2 u3 u4 u5 u6 u7 u8 L ++ wP cI cZ p0 p1 h0 a1 a2 a3 a4 (upd P.1 x2.toNatClampNeg 1, P.2.1, P.2.2.1 + 1, if P.2.2.2.1 < (L.2.2.1 x2.toNatClampNeg) then (L.2.2.1 x2.toNatClampNeg) else P.2.2.2.1, P.2.2.2.2)) H := vz_reP (hW_P_learn_31 cI cZ cQ u0 u1 u2 u3 u4 u5 u6 u7 u8 p0 p1 h0 a1 a2 a3 a4 L (upd P.1 x2.toNatClampNeg 1, P.2.1, P.2.2.1 + 1, P.2.2.2.1, P.2.2.2.2) (if P.2.2.2.1 < (L.2.2.1 x2.toNatClampNeg) then (L.2.2.1 x2.toNatClampNeg) else P.2.2.2.1)) hP
  have hD : va_D (vz_A (wL cI cZ u0 u1 u2 u3 u4 u5 u6 u7 u8 L ++ wP cI cZ p0 p1 h0 a1 a2 a3 a4 P)) (wL cI cZ u0 u1 u2 u3 u4 u5 u6 u7 u8 L ++ wP cI cZ p0 p1 h0 a1 a2 a3 a4 (upd P.1 x2.toNatClampNeg 1, P.2.1, P.2.2.1 + 1, if P.2.2.2.1 < (L.2.2.1 x2.toNatClampNeg) then (L.2.2.1 x2.toNatClampNeg) else P.2.2.2.1, P.2.2.2.2)) := vz_reD (hW_P_learn_31 cI cZ cQ u0 u1 u2 u3 u4 u5 u6 u7 u8 p0 p1 h0 a1 a2 a3 a4 L (upd P.1 x2.toNatClampNeg 1, P.2.1, P.2.2.1 + 1, P.2.2.2.1, P.2.2.2.2) (if P.2.2.2.1 < (L.2.2.1 x2.toNatClampNeg) then (L.2.2.1 x2.toNatClampNeg) else P.2.2.2.1)) hD
  refine lv_aload_n hx hb d_P_learn_34 rfl (lv_at hl 0 rfl) ?_
  refine lv_aload_n hx hb d_P_learn_35 rfl (lv_at hl 0 rfl) ?_
  refine lv_aload_n hx hb d_P_learn_36 rfl (lv_at hl 1 rfl) ?_
  refine lv_aload_n hx hb d_P_learn_37 rfl (lv_at hl 1 rfl) ?_
  refine va_get (D := (dC, dI)) (ci := 1) (v := .ref u1) (C := R_L) (T := F_L) (N := 10) hx hb hT i_L hown hK hP 0 rfl rfl 0 (by decide) (hT _ kw_22) (fun _ h9 => h9) rfl d_P_learn_38 ?_
  refine lv_iload_n hx hb d_P_learn_41 rfl (lv_at hl 2 rfl) ?_
  refine va_iald hx hb hK hP 1 0 rfl rfl (ti_vp (by omega) (by omega)) d_P_learn_42 ?_
  refine lv_iconst (v := 4) hx hb d_P_learn_43 (by decide) ?_
  refine lv_icmp_ne (tgt := 56) hx hb d_P_learn_44 (by decide) (fun c_44 => ?_) (fun c_44 => ?_)
  · have z_44 : ¬ (L.1 x2.toNatClampNeg).toInt = (4 : Int32).toInt := mt Int32.toInt_inj.mp c_44
    refine lv_iload_n hx hb d_P_learn_56 rfl (lv_at hl 2 rfl) ?_
    have hc := c_P_countFrom l dC dI cI cZ cQ u0 u1 u2 u3 u4 u5 u6 u7 u8 L p0 p1 h0 a1 a2 a3 a4 (upd P.1 x2.toNatClampNeg 1, P.2.1, P.2.2.1 + 1, if P.2.2.2.1 < (L.2.2.1 x2.toNatClampNeg) then (L.2.2.1 x2.toNatClampNeg) else P.2.2.2.1, P.2.2.2.2) x2 (hcnt) (hord) (by first | exact h2 | exact hsub c_44)
    generalize hg_57 : (m_P_countFrom L (upd P.1 x2.toNatClampNeg 1, P.2.1, P.2.2.1 + 1, if P.2.2.2.1 < (L.2.2.1 x2.toNatClampNeg) then (L.2.2.1 x2.toNatClampNeg) else P.2.2.2.1, P.2.2.2.2) x2) = g_57 at hc
    refine vz_callV (As := [.ref u0, .int x2]) (rest := [.ref p0]) ⟨hx, hb, hml, hown, hT⟩ hc (vz_goodV kw_169 kw_171 ks_4 kw_3 kw_172) ⟨rfl, hd_P_countFrom⟩ ⟨⟨rfl, rfl⟩, Nat.le_of_ble_eq_true rfl, Nat.le_of_ble_eq_true rfl⟩ hK hP hD hS [0, 1, 2, 3, 4, 5, 6, 7, 8, 9, 10, 11, 12, 13, 14, 15] rfl (hC_P_learn_57 cI cZ cQ u0 u1 u2 u3 u4 u5 u6 u7 u8 p0 p1 h0 a1 a2 a3 a4 L (upd P.1 x2.toNatClampNeg 1, P.2.1, P.2.2.1 + 1, if P.2.2.2.1 < (L.2.2.1 x2.toNatClampNeg) then (L.2.2.1 x2.toNatClampNeg) else P.2.2.2.1, P.2.2.2.2)) (hF_P_countFrom cI cZ cQ _ _ _ _) 9 2 rfl rfl rfl rfl hl.1 rfl (Nat.le_of_ble_eq_true rfl) ⟨Nat.zero_le _, Nat.zero_le _⟩ d_P_learn_57 (fun H locs hP hD hS => ?_)
    have hP : va_P (dC, dI) classes (wL cI cZ u0 u1 u2 u3 u4 u5 u6 u7 u8 L ++ wP cI cZ p0 p1 h0 a1 a2 a3 a4 (upd P.1 x2.toNatClampNeg 1, P.2.1, P.2.2.1 + 1, if P.2.2.2.1 < (L.2.2.1 x2.toNatClampNeg) then (L.2.2.1 x2.toNatClampNeg) else P.2.2.2.1, P.2.2.2.2)) H := vz_reP (hU_P_learn_57 cI cZ cQ u0 u1 u2 u3 u4 u5 u6 u7 u8 p0 p1 h0 a1 a2 a3 a4 L (upd P.1 x2.toNatClampNeg 1, P.2.1, P.2.2.1 + 1, if P.2.2.2.1 < (L.2.2.1 x2.toNatClampNeg) then (L.2.2.1 x2.toNatClampNeg) else P.2.2.2.1, P.2.2.2.2) ) hP
    have hD : va_D (vz_A (wL cI cZ u0 u1 u2 u3 u4 u5 u6 u7 u8 L ++ wP cI cZ p0 p1 h0 a1 a2 a3 a4 P)) (wL cI cZ u0 u1 u2 u3 u4 u5 u6 u7 u8 L ++ wP cI cZ p0 p1 h0 a1 a2 a3 a4 (upd P.1 x2.toNatClampNeg 1, P.2.1, P.2.2.1 + 1, if P.2.2.2.1 < (L.2.2.1 x2.toNatClampNeg) then (L.2.2.1 x2.toNatClampNeg) else P.2.2.2.1, P.2.2.2.2)) := vz_reD (hU_P_learn_57 cI cZ cQ u0 u1 u2 u3 u4 u5 u6 u7 u8 p0 p1 h0 a1 a2 a3 a4 L (upd P.1 x2.toNatClampNeg 1, P.2.1, P.2.2.1 + 1, if P.2.2.2.1 < (L.2.2.1 x2.toNatClampNeg) then (L.2.2.1 x2.toNatClampNeg) else P.2.2.2.1, P.2.2.2.2) ) hD
    refine W.eq (g2 := F0 m 60 ls [.int g_57, .ref p0]) rfl ?_
    refine va_put (D := (dC, dI)) (ci := 2) (v := .int g_57) (ty := .int) (C := R_P) (T := F_P) (N := 5) hx hb hT i_P tt_P tt_P_ok n_P hown hK hP hD hS 9 rfl rfl 4 (by decide) (hT _ kw_115) (fun _ h9 => h9) rfl (by decide +kernel) rfl rfl (Nat.le_of_ble_eq_true rfl) d_P_learn_60 (fun H locs hP hD hS => ?_)
    have hP : va_P (dC, dI) classes (wL cI cZ u0 u1 u2 u3 u4 u5 u6 u7 u8 L ++ wP cI cZ p0 p1 h0 a1 a2 a3 a4 (upd P.1 x2.toNatClampNeg 1, P.2.1, P.2.2.1 + 1, if P.2.2.2.1 < (L.2.2.1 x2.toNatClampNeg) then (L.2.2.1 x2.toNatClampNeg) else P.2.2.2.1, g_57)) H := vz_reP (hW_P_learn_60 cI cZ cQ u0 u1 u2 u3 u4 u5 u6 u7 u8 p0 p1 h0 a1 a2 a3 a4 L (upd P.1 x2.toNatClampNeg 1, P.2.1, P.2.2.1 + 1, if P.2.2.2.1 < (L.2.2.1 x2.toNatClampNeg) then (L.2.2.1 x2.toNatClampNeg) else P.2.2.2.1, P.2.2.2.2) g_57) hP
    have hD : va_D (vz_A (wL cI cZ u0 u1 u2 u3 u4 u5 u6 u7 u8 L ++ wP cI cZ p0 p1 h0 a1 a2 a3 a4 P)) (wL cI cZ u0 u1 u2 u3 u4 u5 u6 u7 u8 L ++ wP cI cZ p0 p1 h0 a1 a2 a3 a4 (upd P.1 x2.toNatClampNeg 1, P.2.1, P.2.2.1 + 1, if P.2.2.2.1 < (L.2.2.1 x2.toNatClampNeg) then (L.2.2.1 x2.toNatClampNeg) else P.2.2.2.1, g_57)) := vz_reD (hW_P_learn_60 cI cZ cQ u0 u1 u2 u3 u4 u5 u6 u7 u8 p0 p1 h0 a1 a2 a3 a4 L (upd P.1 x2.toNatClampNeg 1, P.2.1, P.2.2.1 + 1, if P.2.2.2.1 < (L.2.2.1 x2.toNatClampNeg) then (L.2.2.1 x2.toNatClampNeg) else P.2.2.2.1, P.2.2.2.2) g_57) hD
    rw [m_P_learn, if_neg c_44] at hres
    try rw [hg_57] at hres
    subst hres
    subst hQ
    exact vz_vret hx hb hr hlocks d_P_learn_63 hS rfl hP
  · have z_44 : (L.1 x2.toNatClampNeg).toInt = (4 : Int32).toInt := congrArg Int32.toInt c_44
    refine lv_aload_n hx hb d_P_learn_47 rfl (lv_at hl 1 rfl) ?_
    refine va_get (D := (dC, dI)) (ci := 1) (v := .ref u4) (C := R_L) (T := F_L) (N := 10) hx hb hT i_L hown hK hP 0 rfl rfl 3 (by decide) (hT _ kw_30) (fun _ h9 => h9) rfl d_P_learn_48 ?_
    refine lv_iload_n hx hb d_P_learn_51 rfl (lv_at hl 2 rfl) ?_
    refine va_iald hx hb hK hP 4 0 rfl rfl (ti_vp (by omega) (by omega)) d_P_learn_52 ?_
    refine lv_goto (tgt := 57) hx hb d_P_learn_53 (by decide) ?_
    have hc := c_P_countFrom l dC dI cI cZ cQ u0 u1 u2 u3 u4 u5 u6 u7 u8 L p0 p1 h0 a1 a2 a3 a4 (upd P.1 x2.toNatClampNeg 1, P.2.1, P.2.2.1 + 1, if P.2.2.2.1 < (L.2.2.1 x2.toNatClampNeg) then (L.2.2.1 x2.toNatClampNeg) else P.2.2.2.1, P.2.2.2.2) (L.2.2.2.1 x2.toNatClampNeg) (hcnt) (hord) (by first | exact h2 | exact hsub c_44)
    generalize hg_57 : (m_P_countFrom L (upd P.1 x2.toNatClampNeg 1, P.2.1, P.2.2.1 + 1, if P.2.2.2.1 < (L.2.2.1 x2.toNatClampNeg) then (L.2.2.1 x2.toNatClampNeg) else P.2.2.2.1, P.2.2.2.2) (L.2.2.2.1 x2.toNatClampNeg)) = g_57 at hc
    refine vz_callV (As := [.ref u0, .int (L.2.2.2.1 x2.toNatClampNeg)]) (rest := [.ref p0]) ⟨hx, hb, hml, hown, hT⟩ hc (vz_goodV kw_169 kw_171 ks_4 kw_3 kw_172) ⟨rfl, hd_P_countFrom⟩ ⟨⟨rfl, rfl⟩, Nat.le_of_ble_eq_true rfl, Nat.le_of_ble_eq_true rfl⟩ hK hP hD hS [0, 1, 2, 3, 4, 5, 6, 7, 8, 9, 10, 11, 12, 13, 14, 15] rfl (hC_P_learn_57 cI cZ cQ u0 u1 u2 u3 u4 u5 u6 u7 u8 p0 p1 h0 a1 a2 a3 a4 L (upd P.1 x2.toNatClampNeg 1, P.2.1, P.2.2.1 + 1, if P.2.2.2.1 < (L.2.2.1 x2.toNatClampNeg) then (L.2.2.1 x2.toNatClampNeg) else P.2.2.2.1, P.2.2.2.2)) (hF_P_countFrom cI cZ cQ _ _ _ _) 9 2 rfl rfl rfl rfl hl.1 rfl (Nat.le_of_ble_eq_true rfl) ⟨Nat.zero_le _, Nat.zero_le _⟩ d_P_learn_57 (fun H locs hP hD hS => ?_)
    have hP : va_P (dC, dI) classes (wL cI cZ u0 u1 u2 u3 u4 u5 u6 u7 u8 L ++ wP cI cZ p0 p1 h0 a1 a2 a3 a4 (upd P.1 x2.toNatClampNeg 1, P.2.1, P.2.2.1 + 1, if P.2.2.2.1 < (L.2.2.1 x2.toNatClampNeg) then (L.2.2.1 x2.toNatClampNeg) else P.2.2.2.1, P.2.2.2.2)) H := vz_reP (hU_P_learn_57 cI cZ cQ u0 u1 u2 u3 u4 u5 u6 u7 u8 p0 p1 h0 a1 a2 a3 a4 L (upd P.1 x2.toNatClampNeg 1, P.2.1, P.2.2.1 + 1, if P.2.2.2.1 < (L.2.2.1 x2.toNatClampNeg) then (L.2.2.1 x2.toNatClampNeg) else P.2.2.2.1, P.2.2.2.2) ) hP
    have hD : va_D (vz_A (wL cI cZ u0 u1 u2 u3 u4 u5 u6 u7 u8 L ++ wP cI cZ p0 p1 h0 a1 a2 a3 a4 P)) (wL cI cZ u0 u1 u2 u3 u4 u5 u6 u7 u8 L ++ wP cI cZ p0 p1 h0 a1 a2 a3 a4 (upd P.1 x2.toNatClampNeg 1, P.2.1, P.2.2.1 + 1, if P.2.2.2.1 < (L.2.2.1 x2.toNatClampNeg) then (L.2.2.1 x2.toNatClampNeg) else P.2.2.2.1, P.2.2.2.2)) := vz_reD (hU_P_learn_57 cI cZ cQ u0 u1 u2 u3 u4 u5 u6 u7 u8 p0 p1 h0 a1 a2 a3 a4 L (upd P.1 x2.toNatClampNeg 1, P.2.1, P.2.2.1 + 1, if P.2.2.2.1 < (L.2.2.1 x2.toNatClampNeg) then (L.2.2.1 x2.toNatClampNeg) else P.2.2.2.1, P.2.2.2.2) ) hD
    refine W.eq (g2 := F0 m 60 ls [.int g_57, .ref p0]) rfl ?_
    refine va_put (D := (dC, dI)) (ci := 2) (v := .int g_57) (ty := .int) (C := R_P) (T := F_P) (N := 5) hx hb hT i_P tt_P tt_P_ok n_P hown hK hP hD hS 9 rfl rfl 4 (by decide) (hT _ kw_115) (fun _ h9 => h9) rfl (by decide +kernel) rfl rfl (Nat.le_of_ble_eq_true rfl) d_P_learn_60 (fun H locs hP hD hS => ?_)
    have hP : va_P (dC, dI) classes (wL cI cZ u0 u1 u2 u3 u4 u5 u6 u7 u8 L ++ wP cI cZ p0 p1 h0 a1 a2 a3 a4 (upd P.1 x2.toNatClampNeg 1, P.2.1, P.2.2.1 + 1, if P.2.2.2.1 < (L.2.2.1 x2.toNatClampNeg) then (L.2.2.1 x2.toNatClampNeg) else P.2.2.2.1, g_57)) H := vz_reP (hW_P_learn_60 cI cZ cQ u0 u1 u2 u3 u4 u5 u6 u7 u8 p0 p1 h0 a1 a2 a3 a4 L (upd P.1 x2.toNatClampNeg 1, P.2.1, P.2.2.1 + 1, if P.2.2.2.1 < (L.2.2.1 x2.toNatClampNeg) then (L.2.2.1 x2.toNatClampNeg) else P.2.2.2.1, P.2.2.2.2) g_57) hP
    have hD : va_D (vz_A (wL cI cZ u0 u1 u2 u3 u4 u5 u6 u7 u8 L ++ wP cI cZ p0 p1 h0 a1 a2 a3 a4 P)) (wL cI cZ u0 u1 u2 u3 u4 u5 u6 u7 u8 L ++ wP cI cZ p0 p1 h0 a1 a2 a3 a4 (upd P.1 x2.toNatClampNeg 1, P.2.1, P.2.2.1 + 1, if P.2.2.2.1 < (L.2.2.1 x2.toNatClampNeg) then (L.2.2.1 x2.toNatClampNeg) else P.2.2.2.1, g_57)) := vz_reD (hW_P_learn_60 cI cZ cQ u0 u1 u2 u3 u4 u5 u6 u7 u8 p0 p1 h0 a1 a2 a3 a4 L (upd P.1 x2.toNatClampNeg 1, P.2.1, P.2.2.1 + 1, if P.2.2.2.1 < (L.2.2.1 x2.toNatClampNeg) then (L.2.2.1 x2.toNatClampNeg) else P.2.2.2.1, P.2.2.2.2) g_57) hD
    rw [m_P_learn, if_pos c_44] at hres
    try rw [hg_57] at hres
    subst hres
    subst hQ
    exact vz_vret hx hb hr hlocks d_P_learn_63 hS rfl hP
