theorem d_P_countFrom_0 : decode b_P_countFrom 0 = .ok (.aload_n 0, 1) := by decide +kernel
theorem d_P_countFrom_1 : decode b_P_countFrom 1 = .ok (.iload_n 2, 1) := by decide +kernel
theorem d_P_countFrom_2 : decode b_P_countFrom 2 = .ok (.invokevirtual 52, 3) := by decide +kernel
theorem d_P_countFrom_5 : decode b_P_countFrom 5 = .ok (.ifCond .ne 5, 3) := by decide +kernel
theorem d_P_countFrom_8 : decode b_P_countFrom 8 = .ok (.iconst 0, 1) := by decide +kernel
theorem d_P_countFrom_9 : decode b_P_countFrom 9 = .ok (.ireturn, 1) := by decide +kernel
theorem d_P_countFrom_10 : decode b_P_countFrom 10 = .ok (.iconst 0, 1) := by decide +kernel
theorem d_P_countFrom_11 : decode b_P_countFrom 11 = .ok (.istore_n 3, 1) := by decide +kernel
theorem d_P_countFrom_12 : decode b_P_countFrom 12 = .ok (.aload_n 1, 1) := by decide +kernel
theorem d_P_countFrom_13 : decode b_P_countFrom 13 = .ok (.getfield 56, 3) := by decide +kernel
theorem d_P_countFrom_16 : decode b_P_countFrom 16 = .ok (.iconst 1, 1) := by decide +kernel
theorem d_P_countFrom_17 : decode b_P_countFrom 17 = .ok (.isub, 1) := by decide +kernel
theorem d_P_countFrom_18 : decode b_P_countFrom 18 = .ok (.istore 4, 2) := by decide +kernel
theorem d_P_countFrom_20 : decode b_P_countFrom 20 = .ok (.iload 4, 2) := by decide +kernel
theorem d_P_countFrom_22 : decode b_P_countFrom 22 = .ok (.ifCond .lt 50, 3) := by decide +kernel
theorem d_P_countFrom_25 : decode b_P_countFrom 25 = .ok (.aload_n 1, 1) := by decide +kernel
theorem d_P_countFrom_26 : decode b_P_countFrom 26 = .ok (.getfield 59, 3) := by decide +kernel
theorem d_P_countFrom_29 : decode b_P_countFrom 29 = .ok (.iload 4, 2) := by decide +kernel
theorem d_P_countFrom_31 : decode b_P_countFrom 31 = .ok (.iaload, 1) := by decide +kernel
theorem d_P_countFrom_32 : decode b_P_countFrom 32 = .ok (.istore 5, 2) := by decide +kernel
theorem d_P_countFrom_34 : decode b_P_countFrom 34 = .ok (.aload_n 0, 1) := by decide +kernel
theorem d_P_countFrom_35 : decode b_P_countFrom 35 = .ok (.iload 5, 2) := by decide +kernel
theorem d_P_countFrom_37 : decode b_P_countFrom 37 = .ok (.invokevirtual 52, 3) := by decide +kernel
theorem d_P_countFrom_40 : decode b_P_countFrom 40 = .ok (.ifCond .eq 17, 3) := by decide +kernel
theorem d_P_countFrom_43 : decode b_P_countFrom 43 = .ok (.aload_n 1, 1) := by decide +kernel
theorem d_P_countFrom_44 : decode b_P_countFrom 44 = .ok (.getfield 39, 3) := by decide +kernel
theorem d_P_countFrom_47 : decode b_P_countFrom 47 = .ok (.iload 5, 2) := by decide +kernel
theorem d_P_countFrom_49 : decode b_P_countFrom 49 = .ok (.iaload, 1) := by decide +kernel
theorem d_P_countFrom_50 : decode b_P_countFrom 50 = .ok (.iconst 4, 1) := by decide +kernel
theorem d_P_countFrom_51 : decode b_P_countFrom 51 = .ok (.if_icmp .eq 6, 3) := by decide +kernel
theorem d_P_countFrom_54 : decode b_P_countFrom 54 = .ok (.iinc 3 1, 3) := by decide +kernel
theorem d_P_countFrom_57 : decode b_P_countFrom 57 = .ok (.iload 5, 2) := by decide +kernel
theorem d_P_countFrom_59 : decode b_P_countFrom 59 = .ok (.iload_n 2, 1) := by decide +kernel
theorem d_P_countFrom_60 : decode b_P_countFrom 60 = .ok (.if_icmp .ne 6, 3) := by decide +kernel
theorem d_P_countFrom_63 : decode b_P_countFrom 63 = .ok (.goto 9, 3) := by decide +kernel
theorem d_P_countFrom_66 : decode b_P_countFrom 66 = .ok (.iinc 4 (-1), 3) := by decide +kernel
theorem d_P_countFrom_69 : decode b_P_countFrom 69 = .ok (.goto (-49), 3) := by decide +kernel
theorem d_P_countFrom_72 : decode b_P_countFrom 72 = .ok (.iload_n 3, 1) := by decide +kernel
theorem d_P_countFrom_73 : decode b_P_countFrom 73 = .ok (.ireturn, 1) := by decide +kernel
theorem hC_P_countFrom_37 (cI cZ cQ : ClassId) (q0 q1 q2 q3 q4 q5 q6 q7 q8 q9 q10 q11 q12 q13 q14 q15 : Nat) (S0 : cL) (S1 : cP) : ([9, 10, 11, 12, 13, 14, 15] : List Nat).map (fun i => (wL cI cZ q0 q1 q2 q3 q4 q5 q6 q7 q8 S0 ++ wP cI cZ q9 q10 q11 q12 q13 q14 q15 S1 : va_W)[i]?) = (wP cI cZ q9 q10 q11 q12 q13 q14 q15 S1 : va_W).map some := rfl
theorem hF_P_knows (cI cZ cQ : ClassId) {p0 p1 h0 a1 a2 a3 a4 : Nat} (S0 R0 : cP) : (wP cI cZ p0 p1 h0 a1 a2 a3 a4 R0 : va_W).map Prod.fst = (wP cI cZ p0 p1 h0 a1 a2 a3 a4 S0 : va_W).map Prod.fst := rfl
theorem hU_P_countFrom_37 (cI cZ cQ : ClassId) (q0 q1 q2 q3 q4 q5 q6 q7 q8 q9 q10 q11 q12 q13 q14 q15 : Nat) (S0 : cL) (S1 : cP)  : vz_put (wL cI cZ q0 q1 q2 q3 q4 q5 q6 q7 q8 S0 ++ wP cI cZ q9 q10 q11 q12 q13 q14 q15 S1 : va_W) [9, 10, 11, 12, 13, 14, 15] (wP cI cZ q9 q10 q11 q12 q13 q14 q15 S1 : va_W) = wL cI cZ q0 q1 q2 q3 q4 q5 q6 q7 q8 S0 ++ wP cI cZ q9 q10 q11 q12 q13 q14 q15 S1 := (show vz_put ([(q0, .inr (1, [.ref q1, .ref q2, .ref q3, .ref q4, .ref q5, .ref q6, .ref q7, .ref q8, .int S0.2.2.2.2.2.2.2.2.1, .int S0.2.2.2.2.2.2.2.2.2])), (q1, .inl (cI, 301, .inl S0.1)), (q2, .inl (cI, 301, .inl S0.2.1)), (q3, .inl (cI, 301, .inl S0.2.2.1)), (q4, .inl (cI, 301, .inl S0.2.2.2.1)), (q5, .inl (cI, 301, .inl S0.2.2.2.2.1)), (q6, .inl (cI, 301, .inl S0.2.2.2.2.2.1)), (q7, .inl (cI, 301, .inl S0.2.2.2.2.2.2.1)), (q8, .inl (cI, 300, .inl S0.2.2.2.2.2.2.2.1)), (q9, .inr (2, [.ref q10, .ref q11, .int S1.2.2.1, .int S1.2.2.2.1, .int S1.2.2.2.2])), (q10, .inl (cI, 301, .inl S1.1)), (q11, .inr (0, [.ref q12, .ref q13, .ref q14, .ref q15, .int S1.2.1.2.2.2.2])), (q12, .inl (cZ, 40, .inl S1.2.1.1)), (q13, .inl (cI, 40, .inl S1.2.1.2.1)), (q14, .inl (cI, 40, .inl S1.2.1.2.2.1)), (q15, .inl (cI, 40, .inl S1.2.1.2.2.2.1))] : va_W) [9, 10, 11, 12, 13, 14, 15] ([(q9, .inr (2, [.ref q10, .ref q11, .int S1.2.2.1, .int S1.2.2.2.1, .int S1.2.2.2.2])), (q10, .inl (cI, 301, .inl S1.1)), (q11, .inr (0, [.ref q12, .ref q13, .ref q14, .ref q15, .int S1.2.1.2.2.2.2])), (q12, .inl (cZ, 40, .inl S1.2.1.1)), (q13, .inl (cI, 40, .inl S1.2.1.2.1)), (q14, .inl (cI, 40, .inl S1.2.1.2.2.1)), (q15, .inl (cI, 40, .inl S1.2.1.2.2.2.1))] : va_W) = [(q0, .inr (1, [.ref q1, .ref q2, .ref q3, .ref q4, .ref q5, .ref q6, .ref q7, .ref q8, .int S0.2.2.2.2.2.2.2.2.1, .int S0.2.2.2.2.2.2.2.2.2])), (q1, .inl (cI, 301, .inl S0.1)), (q2, .inl (cI, 301, .inl S0.2.1)), (q3, .inl (cI, 301, .inl S0.2.2.1)), (q4, .inl (cI, 301, .inl S0.2.2.2.1)), (q5, .inl (cI, 301, .inl S0.2.2.2.2.1)), (q6, .inl (cI, 301, .inl S0.2.2.2.2.2.1)), (q7, .inl (cI, 301, .inl S0.2.2.2.2.2.2.1)), (q8, .inl (cI, 300, .inl S0.2.2.2.2.2.2.2.1)), (q9, .inr (2, [.ref q10, .ref q11, .int S1.2.2.1, .int S1.2.2.2.1, .int S1.2.2.2.2])), (q10, .inl (cI, 301, .inl S1.1)), (q11, .inr (0, [.ref q12, .ref q13, .ref q14, .ref q15, .int S1.2.1.2.2.2.2])), (q12, .inl (cZ, 40, .inl S1.2.1.1)), (q13, .inl (cI, 40, .inl S1.2.1.2.1)), (q14, .inl (cI, 40, .inl S1.2.1.2.2.1)), (q15, .inl (cI, 40, .inl S1.2.1.2.2.2.1))] from rfl).trans rfl
theorem hC_P_countFrom_2 (cI cZ cQ : ClassId) (q0 q1 q2 q3 q4 q5 q6 q7 q8 q9 q10 q11 q12 q13 q14 q15 : Nat) (S0 : cL) (S1 : cP) : ([9, 10, 11, 12, 13, 14, 15] : List Nat).map (fun i => (wL cI cZ q0 q1 q2 q3 q4 q5 q6 q7 q8 S0 ++ wP cI cZ q9 q10 q11 q12 q13 q14 q15 S1 : va_W)[i]?) = (wP cI cZ q9 q10 q11 q12 q13 q14 q15 S1 : va_W).map some := rfl
theorem hU_P_countFrom_2 (cI cZ cQ : ClassId) (q0 q1 q2 q3 q4 q5 q6 q7 q8 q9 q10 q11 q12 q13 q14 q15 : Nat) (S0 : cL) (S1 : cP)  : vz_put (wL cI cZ q0 q1 q2 q3 q4 q5 q6 q7 q8 S0 ++ wP cI cZ q9 q10 q11 q12 q13 q14 q15 S1 : va_W) [9, 10, 11, 12, 13, 14, 15] (wP cI cZ q9 q10 q11 q12 q13 q14 q15 S1 : va_W) = wL cI cZ q0 q1 q2 q3 q4 q5 q6 q7 q8 S0 ++ wP cI cZ q9 q10 q11 q12 q13 q14 q15 S1 := (show vz_put ([(q0, .inr (1, [.ref q1, .ref q2, .ref q3, .ref q4, .ref q5, .ref q6, .ref q7, .ref q8, .int S0.2.2.2.2.2.2.2.2.1, .int S0.2.2.2.2.2.2.2.2.2])), (q1, .inl (cI, 301, .inl S0.1)), (q2, .inl (cI, 301, .inl S0.2.1)), (q3, .inl (cI, 301, .inl S0.2.2.1)), (q4, .inl (cI, 301, .inl S0.2.2.2.1)), (q5, .inl (cI, 301, .inl S0.2.2.2.2.1)), (q6, .inl (cI, 301, .inl S0.2.2.2.2.2.1)), (q7, .inl (cI, 301, .inl S0.2.2.2.2.2.2.1)), (q8, .inl (cI, 300, .inl S0.2.2.2.2.2.2.2.1)), (q9, .inr (2, [.ref q10, .ref q11, .int S1.2.2.1, .int S1.2.2.2.1, .int S1.2.2.2.2])), (q10, .inl (cI, 301, .inl S1.1)), (q11, .inr (0, [.ref q12, .ref q13, .ref q14, .ref q15, .int S1.2.1.2.2.2.2])), (q12, .inl (cZ, 40, .inl S1.2.1.1)), (q13, .inl (cI, 40, .inl S1.2.1.2.1)), (q14, .inl (cI, 40, .inl S1.2.1.2.2.1)), (q15, .inl (cI, 40, .inl S1.2.1.2.2.2.1))] : va_W) [9, 10, 11, 12, 13, 14, 15] ([(q9, .inr (2, [.ref q10, .ref q11, .int S1.2.2.1, .int S1.2.2.2.1, .int S1.2.2.2.2])), (q10, .inl (cI, 301, .inl S1.1)), (q11, .inr (0, [.ref q12, .ref q13, .ref q14, .ref q15, .int S1.2.1.2.2.2.2])), (q12, .inl (cZ, 40, .inl S1.2.1.1)), (q13, .inl (cI, 40, .inl S1.2.1.2.1)), (q14, .inl (cI, 40, .inl S1.2.1.2.2.1)), (q15, .inl (cI, 40, .inl S1.2.1.2.2.2.1))] : va_W) = [(q0, .inr (1, [.ref q1, .ref q2, .ref q3, .ref q4, .ref q5, .ref q6, .ref q7, .ref q8, .int S0.2.2.2.2.2.2.2.2.1, .int S0.2.2.2.2.2.2.2.2.2])), (q1, .inl (cI, 301, .inl S0.1)), (q2, .inl (cI, 301, .inl S0.2.1)), (q3, .inl (cI, 301, .inl S0.2.2.1)), (q4, .inl (cI, 301, .inl S0.2.2.2.1)), (q5, .inl (cI, 301, .inl S0.2.2.2.2.1)), (q6, .inl (cI, 301, .inl S0.2.2.2.2.2.1)), (q7, .inl (cI, 301, .inl S0.2.2.2.2.2.2.1)), (q8, .inl (cI, 300, .inl S0.2.2.2.2.2.2.2.1)), (q9, .inr (2, [.ref q10, .ref q11, .int S1.2.2.1, .int S1.2.2.2.1, .int S1.2.2.2.2])), (q10, .inl (cI, 301, .inl S1.1)), (q11, .inr (0, [.ref q12, .ref q13, .ref q14, .ref q15, .int S1.2.1.2.2.2.2])), (q12, .inl (cZ, 40, .inl S1.2.1.1)), (q13, .inl (cI, 40, .inl S1.2.1.2.1)), (q14, .inl (cI, 40, .inl S1.2.1.2.2.1)), (q15, .inl (cI, 40, .inl S1.2.1.2.2.2.1))] from rfl).trans rfl
def l_P_countFrom_20 (L : cL) (P : cP) (x2 : Int32) : Nat → Int32 → Int32 → Int32
  | 0, _, _ => 0
  | n + 1, x3, x4 => (if x4 < 0 then x3 else (if (m_P_knows P (L.2.2.2.2.2.2.2.1 x4.toNatClampNeg)) = 0 then (if (L.2.2.2.2.2.2.2.1 x4.toNatClampNeg) = x2 then x3 else (l_P_countFrom_20 L P x2 n x3 (x4 + (-1)))) else (if (L.1 (L.2.2.2.2.2.2.2.1 x4.toNatClampNeg).toNatClampNeg) = 4 then (if (L.2.2.2.2.2.2.2.1 x4.toNatClampNeg) = x2 then x3 else (l_P_countFrom_20 L P x2 n x3 (x4 + (-1)))) else (if (L.2.2.2.2.2.2.2.1 x4.toNatClampNeg) = x2 then x3 + 1 else (l_P_countFrom_20 L P x2 n (x3 + 1) (x4 + (-1)))))))
def m_P_countFrom (L : cL) (P : cP) (x2 : Int32) : Int32 := (if (m_P_knows P x2) = 0 then 0 else (l_P_countFrom_20 L P x2 302 0 (L.2.2.2.2.2.2.2.2.1 - 1)))
set_option maxHeartbeats 1000000 in
set_option maxRecDepth 100000 in
theorem c_P_countFrom (l : Launch) (dC : Nat → ClassId) (dI : Nat → Nat → Nat) (cI cZ cQ : ClassId) (u0 : Nat) (u1 : Nat) (u2 : Nat) (u3 : Nat) (u4 : Nat) (u5 : Nat) (u6 : Nat) (u7 : Nat) (u8 : Nat) (L : cL) (p0 : Nat) (p1 : Nat) (h0 : Nat) (a1 : Nat) (a2 : Nat) (a3 : Nat) (a4 : Nat) (P : cP) (x2 : Int32) (hcnt : 0 ≤ L.2.2.2.2.2.2.2.2.1.toInt ∧ L.2.2.2.2.2.2.2.2.1.toInt ≤ 300) (hord : ∀ j, j < 300 → 0 ≤ (L.2.2.2.2.2.2.2.1 j).toInt ∧ (L.2.2.2.2.2.2.2.1 j).toInt < 301) (h2 : 0 ≤ x2.toInt ∧ x2.toInt < 301) : vz_C l (dC, dI) classes [(cI, .int), (cZ, .boolean), (cQ, .object "BinTrees$Person")] y_P_countFrom (Cond.code y_P_countFrom b_P_countFrom 6 (some .int) :: vz_tbl) ({ frames := 1, cells := 0, slots := 0, locals := 21 }) [.ref p0, .ref u0, .int x2] (wL cI cZ u0 u1 u2 u3 u4 u5 u6 u7 u8 L ++ wP cI cZ p0 p1 h0 a1 a2 a3 a4 P) (some (.int (m_P_countFrom L P x2))) (wL cI cZ u0 u1 u2 u3 u4 u5 u6 u7 u8 L ++ wP cI cZ p0 p1 h0 a1 a2 a3 a4 P) := by
  generalize hres : (m_P_countFrom L P x2) = RES
  refine vz_C.of (by decide) (Nat.le_of_ble_eq_true rfl) ?_
  intro p e s m below meth c ls E hl hK hP hD hS
  obtain ⟨hx, hb, hr, hml, hown, hT, hlocks⟩ := E
  obtain ⟨Q, hQ⟩ : ∃ Q, Q = MQ below (vz_Q (dC, dI) classes (wL cI cZ u0 u1 u2 u3 u4 u5 u6 u7 u8 L ++ wP cI cZ p0 p1 h0 a1 a2 a3 a4 P) (some (.int RES)) (wL cI cZ u0 u1 u2 u3 u4 u5 u6 u7 u8 L ++ wP cI cZ p0 p1 h0 a1 a2 a3 a4 P)) ([.ref p0, .ref u0, .int x2] : List Value).toArray s 0 0 (vz_A (wL cI cZ u0 u1 u2 u3 u4 u5 u6 u7 u8 L ++ wP cI cZ p0 p1 h0 a1 a2 a3 a4 P)) := ⟨_, rfl⟩
  rw [← hQ]
  have hl : lv_has ls 6 [(0, .ref p0), (1, .ref u0), (2, .int x2)] := hl
  have T0 := ti_0
  have T1 := ti_1
  have Tm := ti_m1
  have T8 := ti_8
  have T39 := ti_39
  have T40 := ti_40
  have T4 := ti_4
  have T300 := ti_300
  have hd := ti_dec' (x := L.2.2.2.2.2.2.2.2.1) (by omega)
  have k_20 : ∀ (n : Nat) (x3 : Int32) (x4 : Int32), l_P_countFrom_20 L P x2 n x3 x4 = RES → (-1 ≤ x4.toInt ∧ x4.toInt < L.2.2.2.2.2.2.2.2.1.toInt ∧ x4.toInt + 1 < n) → ∀ (H : Heap) (locs : List Loc) (ls : Array Slot), va_P (dC, dI) classes (wL cI cZ u0 u1 u2 u3 u4 u5 u6 u7 u8 L ++ wP cI cZ p0 p1 h0 a1 a2 a3 a4 P) H → va_D (vz_A (wL cI cZ u0 u1 u2 u3 u4 u5 u6 u7 u8 L ++ wP cI cZ p0 p1 h0 a1 a2 a3 a4 P)) (wL cI cZ u0 u1 u2 u3 u4 u5 u6 u7 u8 L ++ wP cI cZ p0 p1 h0 a1 a2 a3 a4 P) → va_S (vz_A (wL cI cZ u0 u1 u2 u3 u4 u5 u6 u7 u8 L ++ wP cI cZ p0 p1 h0 a1 a2 a3 a4 P)) s.heap H locs → lv_has ls 6 [(0, .ref p0), (1, .ref u0), (2, .int x2), (3, .int x3), (4, .int x4)] → W p l e ({ frames := 1, cells := 0, slots := 0, locals := 21 }) s m ([.ref p0, .ref u0, .int x2] : List Value).toArray below meth c H locs 0 0 Q (F0 m 20 ls []) := by
    intro n
    induction n with
    | zero =>
      intro x3 x4 hres i4 H locs ls hP hD hS hl
      exfalso
      omega
    | succ n ih =>
      intro x3 x4 hres i4 H locs ls hP hD hS hl
      refine lv_iload hx hb d_P_countFrom_20 (lv_at hl 4 rfl) ?_
      refine lv_if_lt (tgt := 72) hx hb d_P_countFrom_22 (by decide) (fun c_22 => ?_) (fun c_22 => ?_)
      · have z_22 : x4.toInt < (0 : Int32).toInt := Int32.lt_iff_toInt_lt.mp c_22
        refine lv_iload_n hx hb d_P_countFrom_72 rfl (lv_at hl 3 rfl) ?_
        rw [l_P_countFrom_20, if_pos c_22] at hres
        subst hres
        subst hQ
        exact vz_iret hx hb hr hlocks d_P_countFrom_73 hS rfl hP
      · have z_22 : ¬ x4.toInt < (0 : Int32).toInt := mt Int32.lt_iff_toInt_lt.mpr c_22
        refine lv_aload_n hx hb d_P_countFrom_25 rfl (lv_at hl 1 rfl) ?_
        refine va_get (D := (dC, dI)) (ci := 1) (v := .ref u8) (C := R_L) (T := F_L) (N := 10) hx hb hT i_L hown hK hP 0 rfl rfl 7 (by decide) (hT _ kw_41) (fun _ h9 => h9) rfl d_P_countFrom_26 ?_
        refine lv_iload hx hb d_P_countFrom_29 (lv_at hl 4 rfl) ?_
        refine va_iald hx hb hK hP 8 0 rfl rfl (ti_vp (by omega) (by omega)) d_P_countFrom_31 ?_
        refine lv_istore (lv' := [(5, .int (L.2.2.2.2.2.2.2.1 x4.toNatClampNeg)), (0, .ref p0), (1, .ref u0), (2, .int x2), (3, .int x3), (4, .int x4)]) hx hb d_P_countFrom_32 hl (by decide) rfl (fun ls hl => ?_)
        refine lv_aload_n hx hb d_P_countFrom_34 rfl (lv_at hl 1 rfl) ?_
        refine lv_iload hx hb d_P_countFrom_35 (lv_at hl 0 rfl) ?_
        have hc := c_P_knows l dC dI cI cZ cQ p0 p1 h0 a1 a2 a3 a4 P (L.2.2.2.2.2.2.2.1 x4.toNatClampNeg) (hord _ (ti_ix (x := x4) (n := 300) (by omega) (by omega)))
        generalize hg_37 : (m_P_knows P (L.2.2.2.2.2.2.2.1 x4.toNatClampNeg)) = g_37 at hc
        refine vz_callV (As := [.int (L.2.2.2.2.2.2.2.1 x4.toNatClampNeg)]) (rest := []) ⟨hx, hb, hml, hown, hT⟩ hc (vz_goodV kw_173 kw_174 kw_175 kw_3 kw_176) ⟨rfl, hd_P_knows⟩ ⟨⟨rfl, rfl⟩, Nat.le_of_ble_eq_true rfl, Nat.le_of_ble_eq_true rfl⟩ hK hP hD hS [9, 10, 11, 12, 13, 14, 15] rfl (hC_P_countFrom_37 cI cZ cQ u0 u1 u2 u3 u4 u5 u6 u7 u8 p0 p1 h0 a1 a2 a3 a4 L P) (hF_P_knows cI cZ cQ _ _) 0 2 rfl rfl rfl rfl hl.1 rfl (Nat.le_of_ble_eq_true rfl) ⟨Nat.zero_le _, Nat.zero_le _⟩ d_P_countFrom_37 (fun H locs hP hD hS => ?_)
        have hP : va_P (dC, dI) classes (wL cI cZ u0 u1 u2 u3 u4 u5 u6 u7 u8 L ++ wP cI cZ p0 p1 h0 a1 a2 a3 a4 P) H := vz_reP (hU_P_countFrom_37 cI cZ cQ u0 u1 u2 u3 u4 u5 u6 u7 u8 p0 p1 h0 a1 a2 a3 a4 L P ) hP
        have hD : va_D (vz_A (wL cI cZ u0 u1 u2 u3 u4 u5 u6 u7 u8 L ++ wP cI cZ p0 p1 h0 a1 a2 a3 a4 P)) (wL cI cZ u0 u1 u2 u3 u4 u5 u6 u7 u8 L ++ wP cI cZ p0 p1 h0 a1 a2 a3 a4 P) := vz_reD (hU_P_countFrom_37 cI cZ cQ u0 u1 u2 u3 u4 u5 u6 u7 u8 p0 p1 h0 a1 a2 a3 a4 L P ) hD
        refine W.eq (g2 := F0 m 40 ls [.int g_37]) rfl ?_
        refine lv_if_eq (tgt := 57) hx hb d_P_countFrom_40 (by decide) (fun c_40 => ?_) (fun c_40 => ?_)
        · have z_40 : g_37.toInt = (0 : Int32).toInt := congrArg Int32.toInt c_40
          refine lv_iload hx hb d_P_countFrom_57 (lv_at hl 0 rfl) ?_
          refine lv_iload_n hx hb d_P_countFrom_59 rfl (lv_at hl 3 rfl) ?_
          refine lv_icmp_ne (tgt := 66) hx hb d_P_countFrom_60 (by decide) (fun c_60 => ?_) (fun c_60 => ?_)
          · have z_60 : ¬ (L.2.2.2.2.2.2.2.1 x4.toNatClampNeg).toInt = x2.toInt := mt Int32.toInt_inj.mp c_60
            refine lv_iinc (v := x4 + (-1)) (lv' := [(4, .int (x4 + (-1))), (5, .int (L.2.2.2.2.2.2.2.1 x4.toNatClampNeg)), (0, .ref p0), (1, .ref u0), (2, .int x2), (3, .int x3)]) hx hb d_P_countFrom_66 hl (k := 5) rfl rfl (by decide) rfl (fun ls hl => ?_)
            refine lv_goto (tgt := 20) hx hb d_P_countFrom_69 (by decide) ?_
            rw [l_P_countFrom_20, if_neg c_22] at hres
            try rw [hg_37] at hres
            rw [if_pos c_40, if_neg c_60] at hres
            exact ih x3 (x4 + (-1))  hres (by rw [ti_dec (by omega)]; omega) H locs ls hP hD hS (lv_sub hl [2, 3, 4, 5, 0] rfl)
          · have z_60 : (L.2.2.2.2.2.2.2.1 x4.toNatClampNeg).toInt = x2.toInt := congrArg Int32.toInt c_60
            refine lv_goto (tgt := 72) hx hb d_P_countFrom_63 (by decide) ?_
            refine lv_iload_n hx hb d_P_countFrom_72 rfl (lv_at hl 4 rfl) ?_
            rw [l_P_countFrom_20, if_neg c_22] at hres
            try rw [hg_37] at hres
            rw [if_pos c_40, if_pos c_60] at hres
            subst hres
            subst hQ
            exact vz_iret hx hb hr hlocks d_P_countFrom_73 hS rfl hP
        · have z_40 : ¬ g_37.toInt = (0 : Int32).toInt := mt Int32.toInt_inj.mp c_40
          refine lv_aload_n hx hb d_P_countFrom_43 rfl (lv_at hl 2 rfl) ?_
          refine va_get (D := (dC, dI)) (ci := 1) (v := .ref u1) (C := R_L) (T := F_L) (N := 10) hx hb hT i_L hown hK hP 0 rfl rfl 0 (by decide) (hT _ kw_22) (fun _ h9 => h9) rfl d_P_countFrom_44 ?_
          refine lv_iload hx hb d_P_countFrom_47 (lv_at hl 0 rfl) ?_
          refine va_iald hx hb hK hP 1 0 rfl rfl (by have hz := hord _ (ti_ix (x := x4) (n := 300) (by omega) (by omega)); exact ti_vp (by omega) (by omega)) d_P_countFrom_49 ?_
          refine lv_iconst (v := 4) hx hb d_P_countFrom_50 (by decide) ?_
          refine lv_icmp_eq (tgt := 57) hx hb d_P_countFrom_51 (by decide) (fun c_51 => ?_) (fun c_51 => ?_)
          · have z_51 : (L.1 (L.2.2.2.2.2.2.2.1 x4.toNatClampNeg).toNatClampNeg).toInt = (4 : Int32).toInt := congrArg Int32.toInt c_51
            refine lv_iload hx hb d_P_countFrom_57 (lv_at hl 0 rfl) ?_
            refine lv_iload_n hx hb d_P_countFrom_59 rfl (lv_at hl 3 rfl) ?_
            refine lv_icmp_ne (tgt := 66) hx hb d_P_countFrom_60 (by decide) (fun c_60 => ?_) (fun c_60 => ?_)
            · have z_60 : ¬ (L.2.2.2.2.2.2.2.1 x4.toNatClampNeg).toInt = x2.toInt := mt Int32.toInt_inj.mp c_60
              refine lv_iinc (v := x4 + (-1)) (lv' := [(4, .int (x4 + (-1))), (5, .int (L.2.2.2.2.2.2.2.1 x4.toNatClampNeg)), (0, .ref p0), (1, .ref u0), (2, .int x2), (3, .int x3)]) hx hb d_P_countFrom_66 hl (k := 5) rfl rfl (by decide) rfl (fun ls hl => ?_)
              refine lv_goto (tgt := 20) hx hb d_P_countFrom_69 (by decide) ?_
              rw [l_P_countFrom_20, if_neg c_22] at hres
              try rw [hg_37] at hres
              rw [if_neg c_40, if_pos c_51, if_neg c_60] at hres
              exact ih x3 (x4 + (-1))  hres (by rw [ti_dec (by omega)]; omega) H locs ls hP hD hS (lv_sub hl [2, 3, 4, 5, 0] rfl)
            · have z_60 : (L.2.2.2.2.2.2.2.1 x4.toNatClampNeg).toInt = x2.toInt := congrArg Int32.toInt c_60
              refine lv_goto (tgt := 72) hx hb d_P_countFrom_63 (by decide) ?_
              refine lv_iload_n hx hb d_P_countFrom_72 rfl (lv_at hl 4 rfl) ?_
              rw [l_P_countFrom_20, if_neg c_22] at hres
              try rw [hg_37] at hres
              rw [if_neg c_40, if_pos c_51, if_pos c_60] at hres
              subst hres
              subst hQ
              exact vz_iret hx hb hr hlocks d_P_countFrom_73 hS rfl hP
          · have z_51 : ¬ (L.1 (L.2.2.2.2.2.2.2.1 x4.toNatClampNeg).toNatClampNeg).toInt = (4 : Int32).toInt := mt Int32.toInt_inj.mp c_51
            refine lv_iinc (v := x3 + 1) (lv' := [(3, .int (x3 + 1)), (5, .int (L.2.2.2.2.2.2.2.1 x4.toNatClampNeg)), (0, .ref p0), (1, .ref u0), (2, .int x2), (4, .int x4)]) hx hb d_P_countFrom_54 hl (k := 4) rfl rfl (by decide) rfl (fun ls hl => ?_)
            refine lv_iload hx hb d_P_countFrom_57 (lv_at hl 1 rfl) ?_
            refine lv_iload_n hx hb d_P_countFrom_59 rfl (lv_at hl 4 rfl) ?_
            refine lv_icmp_ne (tgt := 66) hx hb d_P_countFrom_60 (by decide) (fun c_60 => ?_) (fun c_60 => ?_)
            · have z_60 : ¬ (L.2.2.2.2.2.2.2.1 x4.toNatClampNeg).toInt = x2.toInt := mt Int32.toInt_inj.mp c_60
              refine lv_iinc (v := x4 + (-1)) (lv' := [(4, .int (x4 + (-1))), (3, .int (x3 + 1)), (5, .int (L.2.2.2.2.2.2.2.1 x4.toNatClampNeg)), (0, .ref p0), (1, .ref u0), (2, .int x2)]) hx hb d_P_countFrom_66 hl (k := 5) rfl rfl (by decide) rfl (fun ls hl => ?_)
              refine lv_goto (tgt := 20) hx hb d_P_countFrom_69 (by decide) ?_
              rw [l_P_countFrom_20, if_neg c_22] at hres
              try rw [hg_37] at hres
              rw [if_neg c_40, if_neg c_51, if_neg c_60] at hres
              exact ih (x3 + 1) (x4 + (-1))  hres (by rw [ti_dec (by omega)]; omega) H locs ls hP hD hS (lv_sub hl [3, 4, 5, 1, 0] rfl)
            · have z_60 : (L.2.2.2.2.2.2.2.1 x4.toNatClampNeg).toInt = x2.toInt := congrArg Int32.toInt c_60
              refine lv_goto (tgt := 72) hx hb d_P_countFrom_63 (by decide) ?_
              refine lv_iload_n hx hb d_P_countFrom_72 rfl (lv_at hl 0 rfl) ?_
              rw [l_P_countFrom_20, if_neg c_22] at hres
              try rw [hg_37] at hres
              rw [if_neg c_40, if_neg c_51, if_pos c_60] at hres
              subst hres
              subst hQ
              exact vz_iret hx hb hr hlocks d_P_countFrom_73 hS rfl hP
  have hS0 := hS
  refine lv_aload_n hx hb d_P_countFrom_0 rfl (lv_at hl 0 rfl) ?_
  refine lv_iload_n hx hb d_P_countFrom_1 rfl (lv_at hl 2 rfl) ?_
  have hc := c_P_knows l dC dI cI cZ cQ p0 p1 h0 a1 a2 a3 a4 P x2 (h2)
  generalize hg_2 : (m_P_knows P x2) = g_2 at hc
  refine vz_callV (As := [.int x2]) (rest := []) ⟨hx, hb, hml, hown, hT⟩ hc (vz_goodV kw_173 kw_174 kw_175 kw_3 kw_176) ⟨rfl, hd_P_knows⟩ ⟨⟨rfl, rfl⟩, Nat.le_of_ble_eq_true rfl, Nat.le_of_ble_eq_true rfl⟩ hK hP hD hS [9, 10, 11, 12, 13, 14, 15] rfl (hC_P_countFrom_2 cI cZ cQ u0 u1 u2 u3 u4 u5 u6 u7 u8 p0 p1 h0 a1 a2 a3 a4 L P) (hF_P_knows cI cZ cQ _ _) 0 2 rfl rfl rfl rfl hl.1 rfl (Nat.le_of_ble_eq_true rfl) ⟨Nat.zero_le _, Nat.zero_le _⟩ d_P_countFrom_2 (fun H locs hP hD hS => ?_)
  have hP : va_P (dC, dI) classes (wL cI cZ u0 u1 u2 u3 u4 u5 u6 u7 u8 L ++ wP cI cZ p0 p1 h0 a1 a2 a3 a4 P) H := vz_reP (hU_P_countFrom_2 cI cZ cQ u0 u1 u2 u3 u4 u5 u6 u7 u8 p0 p1 h0 a1 a2 a3 a4 L P ) hP
  have hD : va_D (vz_A (wL cI cZ u0 u1 u2 u3 u4 u5 u6 u7 u8 L ++ wP cI cZ p0 p1 h0 a1 a2 a3 a4 P)) (wL cI cZ u0 u1 u2 u3 u4 u5 u6 u7 u8 L ++ wP cI cZ p0 p1 h0 a1 a2 a3 a4 P) := vz_reD (hU_P_countFrom_2 cI cZ cQ u0 u1 u2 u3 u4 u5 u6 u7 u8 p0 p1 h0 a1 a2 a3 a4 L P ) hD
  refine W.eq (g2 := F0 m 5 ls [.int g_2]) rfl ?_
  refine lv_if_ne (tgt := 10) hx hb d_P_countFrom_5 (by decide) (fun c_5 => ?_) (fun c_5 => ?_)
  · have z_5 : ¬ g_2.toInt = (0 : Int32).toInt := mt Int32.toInt_inj.mp c_5
    refine lv_iconst (v := 0) hx hb d_P_countFrom_10 (by decide) ?_
    refine lv_istore_n (lv' := [(3, .int 0), (0, .ref p0), (1, .ref u0), (2, .int x2)]) hx hb d_P_countFrom_11 rfl hl (by decide) rfl (fun ls hl => ?_)
    refine lv_aload_n hx hb d_P_countFrom_12 rfl (lv_at hl 2 rfl) ?_
    refine va_get (D := (dC, dI)) (ci := 1) (v := .int L.2.2.2.2.2.2.2.2.1) (C := R_L) (T := F_L) (N := 10) hx hb hT i_L hown hK hP 0 rfl rfl 8 (by decide) (hT _ kw_44) (fun _ h9 => h9) rfl d_P_countFrom_13 ?_
    refine lv_iconst (v := 1) hx hb d_P_countFrom_16 (by decide) ?_
    refine lv_isub hx hb d_P_countFrom_17 ?_
    refine lv_istore (lv' := [(4, .int (L.2.2.2.2.2.2.2.2.1 - 1)), (3, .int 0), (0, .ref p0), (1, .ref u0), (2, .int x2)]) hx hb d_P_countFrom_18 hl (by decide) rfl (fun ls hl => ?_)
    rw [m_P_countFrom] at hres
    try rw [hg_2] at hres
    rw [if_neg c_5] at hres
    exact k_20 302 0 (L.2.2.2.2.2.2.2.2.1 - 1)  hres (by omega) _ _ ls hP hD hS (lv_sub hl [2, 3, 4, 1, 0] rfl)
  · have z_5 : g_2.toInt = (0 : Int32).toInt := congrArg Int32.toInt c_5
    refine lv_iconst (v := 0) hx hb d_P_countFrom_8 (by decide) ?_
    rw [m_P_countFrom] at hres
    try rw [hg_2] at hres
    rw [if_pos c_5] at hres
    subst hres
    subst hQ
    exact vz_iret hx hb hr hlocks d_P_countFrom_9 hS rfl hP
