theorem d_B_cost_0 : decode b_B_cost 0 = .ok (.iload_n 1, 1) := by decide +kernel
theorem d_B_cost_1 : decode b_B_cost 1 = .ok (.invokestatic 55, 3) := by decide +kernel
theorem d_B_cost_4 : decode b_B_cost 4 = .ok (.ifCond .eq 15, 3) := by decide +kernel
theorem d_B_cost_7 : decode b_B_cost 7 = .ok (.aload_n 0, 1) := by decide +kernel
theorem d_B_cost_8 : decode b_B_cost 8 = .ok (.getfield 18, 3) := by decide +kernel
theorem d_B_cost_11 : decode b_B_cost 11 = .ok (.iload_n 1, 1) := by decide +kernel
theorem d_B_cost_12 : decode b_B_cost 12 = .ok (.aaload, 1) := by decide +kernel
theorem d_B_cost_13 : decode b_B_cost 13 = .ok (.getfield 61, 3) := by decide +kernel
theorem d_B_cost_16 : decode b_B_cost 16 = .ok (.goto 4, 3) := by decide +kernel
theorem d_B_cost_19 : decode b_B_cost 19 = .ok (.iconst (-1), 1) := by decide +kernel
theorem d_B_cost_20 : decode b_B_cost 20 = .ok (.ireturn, 1) := by decide +kernel
theorem hC_B_cost_1 (cI cZ cQ : ClassId) (q0 q1 q2 q3 q4 q5 q6 q7 q8 q9 q10 q11 q12 q13 q14 q15 q16 q17 : Nat) (S0 : (Nat → Option Nat)) (S1 : cL) (S2 : cP) : ([] : List Nat).map (fun i => (wB cI cZ cQ q0 q1 q2 S0 ++ wL cI cZ q2 q3 q4 q5 q6 q7 q8 q9 q10 S1 ++ wP cI cZ q11 q12 q13 q14 q15 q16 q17 S2 : va_W)[i]?) = (([] : va_W) : va_W).map some := rfl
theorem hU_B_cost_1 (cI cZ cQ : ClassId) (q0 q1 q2 q3 q4 q5 q6 q7 q8 q9 q10 q11 q12 q13 q14 q15 q16 q17 : Nat) (S0 : (Nat → Option Nat)) (S1 : cL) (S2 : cP)  : vz_put (wB cI cZ cQ q0 q1 q2 S0 ++ wL cI cZ q2 q3 q4 q5 q6 q7 q8 q9 q10 S1 ++ wP cI cZ q11 q12 q13 q14 q15 q16 q17 S2 : va_W) [] (([] : va_W) : va_W) = wB cI cZ cQ q0 q1 q2 S0 ++ wL cI cZ q2 q3 q4 q5 q6 q7 q8 q9 q10 S1 ++ wP cI cZ q11 q12 q13 q14 q15 q16 q17 S2 := (show vz_put ([(q0, .inr (3, [.ref q2, .ref q1])), (q1, .inl (cQ, 4, .inr (.inr (.inr (.inr S0))))), (q2, .inr (1, [.ref q3, .ref q4, .ref q5, .ref q6, .ref q7, .ref q8, .ref q9, .ref q10, .int S1.2.2.2.2.2.2.2.2.1, .int S1.2.2.2.2.2.2.2.2.2])), (q3, .inl (cI, 301, .inl S1.1)), (q4, .inl (cI, 301, .inl S1.2.1)), (q5, .inl (cI, 301, .inl S1.2.2.1)), (q6, .inl (cI, 301, .inl S1.2.2.2.1)), (q7, .inl (cI, 301, .inl S1.2.2.2.2.1)), (q8, .inl (cI, 301, .inl S1.2.2.2.2.2.1)), (q9, .inl (cI, 301, .inl S1.2.2.2.2.2.2.1)), (q10, .inl (cI, 300, .inl S1.2.2.2.2.2.2.2.1)), (q11, .inr (2, [.ref q12, .ref q13, .int S2.2.2.1, .int S2.2.2.2.1, .int S2.2.2.2.2])), (q12, .inl (cI, 301, .inl S2.1)), (q13, .inr (0, [.ref q14, .ref q15, .ref q16, .ref q17, .int S2.2.1.2.2.2.2])), (q14, .inl (cZ, 40, .inl S2.2.1.1)), (q15, .inl (cI, 40, .inl S2.2.1.2.1)), (q16, .inl (cI, 40, .inl S2.2.1.2.2.1)), (q17, .inl (cI, 40, .inl S2.2.1.2.2.2.1))] : va_W) [] ([] : va_W) = [(q0, .inr (3, [.ref q2, .ref q1])), (q1, .inl (cQ, 4, .inr (.inr (.inr (.inr S0))))), (q2, .inr (1, [.ref q3, .ref q4, .ref q5, .ref q6, .ref q7, .ref q8, .ref q9, .ref q10, .int S1.2.2.2.2.2.2.2.2.1, .int S1.2.2.2.2.2.2.2.2.2])), (q3, .inl (cI, 301, .inl S1.1)), (q4, .inl (cI, 301, .inl S1.2.1)), (q5, .inl (cI, 301, .inl S1.2.2.1)), (q6, .inl (cI, 301, .inl S1.2.2.2.1)), (q7, .inl (cI, 301, .inl S1.2.2.2.2.1)), (q8, .inl (cI, 301, .inl S1.2.2.2.2.2.1)), (q9, .inl (cI, 301, .inl S1.2.2.2.2.2.2.1)), (q10, .inl (cI, 300, .inl S1.2.2.2.2.2.2.2.1)), (q11, .inr (2, [.ref q12, .ref q13, .int S2.2.2.1, .int S2.2.2.2.1, .int S2.2.2.2.2])), (q12, .inl (cI, 301, .inl S2.1)), (q13, .inr (0, [.ref q14, .ref q15, .ref q16, .ref q17, .int S2.2.1.2.2.2.2])), (q14, .inl (cZ, 40, .inl S2.2.1.1)), (q15, .inl (cI, 40, .inl S2.2.1.2.1)), (q16, .inl (cI, 40, .inl S2.2.1.2.2.1)), (q17, .inl (cI, 40, .inl S2.2.1.2.2.2.1))] from rfl).trans rfl
def m_B_cost (L : cL) (P : cP) (x1 : Int32) : Int32 := (if (m_B_isNode x1) = 0 then -1 else P.2.2.2.2)
set_option maxHeartbeats 1000000 in
set_option maxRecDepth 100000 in
theorem c_B_cost (l : Launch) (dC : Nat → ClassId) (dI : Nat → Nat → Nat) (cI cZ cQ : ClassId) (b0 : Nat) (b1 : Nat) (F : Nat → Option Nat) (u0 : Nat) (u1 : Nat) (u2 : Nat) (u3 : Nat) (u4 : Nat) (u5 : Nat) (u6 : Nat) (u7 : Nat) (u8 : Nat) (L : cL) (p0 : Nat) (p1 : Nat) (h0 : Nat) (a1 : Nat) (a2 : Nat) (a3 : Nat) (a4 : Nat) (P : cP) (x1 : Int32) (hF : 0 ≤ x1.toInt → x1.toInt < 4 → F x1.toNatClampNeg = some p0) : vz_C l (dC, dI) classes [(cI, .int), (cZ, .boolean), (cQ, .object "BinTrees$Person")] y_B_cost (Cond.code y_B_cost b_B_cost 2 (some .int) :: vz_tbl) ({ frames := 1, cells := 0, slots := 0, locals := 20 }) [.ref b0, .int x1] (wB cI cZ cQ b0 b1 u0 F ++ wL cI cZ u0 u1 u2 u3 u4 u5 u6 u7 u8 L ++ wP cI cZ p0 p1 h0 a1 a2 a3 a4 P) (some (.int (m_B_cost L P x1))) (wB cI cZ cQ b0 b1 u0 F ++ wL cI cZ u0 u1 u2 u3 u4 u5 u6 u7 u8 L ++ wP cI cZ p0 p1 h0 a1 a2 a3 a4 P) := by
  generalize hres : (m_B_cost L P x1) = RES
  refine vz_C.of (by decide) (Nat.le_of_ble_eq_true rfl) ?_
  intro p e s m below meth c ls E hl hK hP hD hS
  obtain ⟨hx, hb, hr, hml, hown, hT, hlocks⟩ := E
  obtain ⟨Q, hQ⟩ : ∃ Q, Q = MQ below (vz_Q (dC, dI) classes (wB cI cZ cQ b0 b1 u0 F ++ wL cI cZ u0 u1 u2 u3 u4 u5 u6 u7 u8 L ++ wP cI cZ p0 p1 h0 a1 a2 a3 a4 P) (some (.int RES)) (wB cI cZ cQ b0 b1 u0 F ++ wL cI cZ u0 u1 u2 u3 u4 u5 u6 u7 u8 L ++ wP cI cZ p0 p1 h0 a1 a2 a3 a4 P)) ([.ref b0, .int x1] : List Value).toArray s 0 0 (vz_A (wB cI cZ cQ b0 b1 u0 F ++ wL cI cZ u0 u1 u2 u3 u4 u5 u6 u7 u8 L ++ wP cI cZ p0 p1 h0 a1 a2 a3 a4 P)) := ⟨_, rfl⟩
  rw [← hQ]
  have hl : lv_has ls 2 [(0, .ref b0), (1, .int x1)] := hl
  have T0 := ti_0
  have T1 := ti_1
  have Tm := ti_m1
  have T8 := ti_8
  have T39 := ti_39
  have T40 := ti_40
  have T4 := ti_4
  have T300 := ti_300
  have hS0 := hS
  refine lv_iload_n hx hb d_B_cost_0 rfl (lv_at hl 1 rfl) ?_
  have hc := c_B_isNode l dC dI cI cZ cQ x1 
  generalize hg_1 : (m_B_isNode x1) = g_1 at hc
  refine vz_callS (As := [.int x1]) (rest := []) ⟨hx, hb, hml, hown, hT⟩ hc (vz_goodS kw_143 kw_144 kw_1 kw_145) hd_B_isNode ⟨⟨rfl, rfl⟩, Nat.le_of_ble_eq_true rfl, Nat.le_of_ble_eq_true rfl⟩ hK hP hD hS [] rfl (hC_B_cost_1 cI cZ cQ b0 b1 u0 u1 u2 u3 u4 u5 u6 u7 u8 p0 p1 h0 a1 a2 a3 a4 F L P) (hF_B_isNode cI cZ cQ ) rfl hl.1 rfl (Nat.le_of_ble_eq_true rfl) ⟨Nat.zero_le _, Nat.zero_le _⟩ d_B_cost_1 (fun H locs hP hD hS => ?_)
  have hP : va_P (dC, dI) classes (wB cI cZ cQ b0 b1 u0 F ++ wL cI cZ u0 u1 u2 u3 u4 u5 u6 u7 u8 L ++ wP cI cZ p0 p1 h0 a1 a2 a3 a4 P) H := vz_reP (hU_B_cost_1 cI cZ cQ b0 b1 u0 u1 u2 u3 u4 u5 u6 u7 u8 p0 p1 h0 a1 a2 a3 a4 F L P ) hP
  have hD : va_D (vz_A (wB cI cZ cQ b0 b1 u0 F ++ wL cI cZ u0 u1 u2 u3 u4 u5 u6 u7 u8 L ++ wP cI cZ p0 p1 h0 a1 a2 a3 a4 P)) (wB cI cZ cQ b0 b1 u0 F ++ wL cI cZ u0 u1 u2 u3 u4 u5 u6 u7 u8 L ++ wP cI cZ p0 p1 h0 a1 a2 a3 a4 P) := vz_reD (hU_B_cost_1 cI cZ cQ b0 b1 u0 u1 u2 u3 u4 u5 u6 u7 u8 p0 p1 h0 a1 a2 a3 a4 F L P ) hD
  refine W.eq (g2 := F0 m 4 ls [.int g_1]) rfl ?_
  refine lv_if_eq (tgt := 19) hx hb d_B_cost_4 (by decide) (fun c_4 => ?_) (fun c_4 => ?_)
  · have z_4 : g_1.toInt = (0 : Int32).toInt := congrArg Int32.toInt c_4
    refine lv_iconst (v := -1) hx hb d_B_cost_19 (by decide) ?_
    rw [m_B_cost] at hres
    try rw [hg_1] at hres
    rw [if_pos c_4] at hres
    subst hres
    subst hQ
    exact vz_iret hx hb hr hlocks d_B_cost_20 hS rfl hP
  · have z_4 : ¬ g_1.toInt = (0 : Int32).toInt := mt Int32.toInt_inj.mp c_4
    refine lv_aload_n hx hb d_B_cost_7 rfl (lv_at hl 0 rfl) ?_
    refine va_get (D := (dC, dI)) (ci := 3) (v := .ref b1) (C := R_B) (T := F_B) (N := 2) hx hb hT i_B hown hK hP 0 rfl rfl 1 (by decide) (hT _ kw_129) (fun _ h9 => h9) rfl d_B_cost_8 ?_
    refine lv_iload_n hx hb d_B_cost_11 rfl (lv_at hl 1 rfl) ?_
    refine va_aldq hx hb hK hP 1 2 rfl rfl (by have hn := isn_t (x0 := x1) (by rw [hg_1]; assumption); exact ti_vp (by omega) (by omega)) d_B_cost_12 ?_
    rw [show va_rf (F x1.toNatClampNeg) = .ref p0 from by have hn := isn_t (x0 := x1) (by rw [hg_1]; assumption); rw [hF hn.1 hn.2]; rfl]
    refine va_get (D := (dC, dI)) (ci := 2) (v := .int P.2.2.2.2) (C := R_P) (T := F_P) (N := 5) hx hb hT i_P hown hK hP 11 rfl rfl 4 (by decide) (hT _ kw_116) (fun _ h9 => h9) rfl d_B_cost_13 ?_
    refine lv_goto (tgt := 20) hx hb d_B_cost_16 (by decide) ?_
    rw [m_B_cost] at hres
    try rw [hg_1] at hres
    rw [if_neg c_4] at hres
    subst hres
    subst hQ
    exact vz_iret hx hb hr hlocks d_B_cost_20 hS rfl hP
