theorem d_T_moveTo_0 : decode b_T_moveTo 0 = .ok (.aload_n 0, 1) := by decide +kernel
theorem d_T_moveTo_1 : decode b_T_moveTo 1 = .ok (.iload_n 1, 1) := by decide +kernel
theorem d_T_moveTo_2 : decode b_T_moveTo 2 = .ok (.iload_n 2, 1) := by decide +kernel
theorem d_T_moveTo_3 : decode b_T_moveTo 3 = .ok (.invokevirtual 36, 3) := by decide +kernel
theorem d_T_moveTo_6 : decode b_T_moveTo 6 = .ok (.ifCond .ne 5, 3) := by decide +kernel
theorem d_T_moveTo_9 : decode b_T_moveTo 9 = .ok (.iconst 0, 1) := by decide +kernel
theorem d_T_moveTo_10 : decode b_T_moveTo 10 = .ok (.ireturn, 1) := by decide +kernel
theorem d_T_moveTo_11 : decode b_T_moveTo 11 = .ok (.aload_n 0, 1) := by decide +kernel
theorem d_T_moveTo_12 : decode b_T_moveTo 12 = .ok (.iload_n 1, 1) := by decide +kernel
theorem d_T_moveTo_13 : decode b_T_moveTo 13 = .ok (.invokevirtual 40, 3) := by decide +kernel
theorem d_T_moveTo_16 : decode b_T_moveTo 16 = .ok (.aload_n 0, 1) := by decide +kernel
theorem d_T_moveTo_17 : decode b_T_moveTo 17 = .ok (.aload_n 0, 1) := by decide +kernel
theorem d_T_moveTo_18 : decode b_T_moveTo 18 = .ok (.iload_n 3, 1) := by decide +kernel
theorem d_T_moveTo_19 : decode b_T_moveTo 19 = .ok (.iload_n 2, 1) := by decide +kernel
theorem d_T_moveTo_20 : decode b_T_moveTo 20 = .ok (.invokevirtual 44, 3) := by decide +kernel
theorem d_T_moveTo_23 : decode b_T_moveTo 23 = .ok (.iload_n 1, 1) := by decide +kernel
theorem d_T_moveTo_24 : decode b_T_moveTo 24 = .ok (.iload_n 2, 1) := by decide +kernel
theorem d_T_moveTo_25 : decode b_T_moveTo 25 = .ok (.invokevirtual 32, 3) := by decide +kernel
theorem d_T_moveTo_28 : decode b_T_moveTo 28 = .ok (.aload_n 0, 1) := by decide +kernel
theorem d_T_moveTo_29 : decode b_T_moveTo 29 = .ok (.getfield 19, 3) := by decide +kernel
theorem d_T_moveTo_32 : decode b_T_moveTo 32 = .ok (.iload_n 1, 1) := by decide +kernel
theorem d_T_moveTo_33 : decode b_T_moveTo 33 = .ok (.iload_n 2, 1) := by decide +kernel
theorem d_T_moveTo_34 : decode b_T_moveTo 34 = .ok (.iastore, 1) := by decide +kernel
theorem d_T_moveTo_35 : decode b_T_moveTo 35 = .ok (.iconst 1, 1) := by decide +kernel
theorem d_T_moveTo_36 : decode b_T_moveTo 36 = .ok (.ireturn, 1) := by decide +kernel
theorem hC_T_moveTo_3 (cI cZ cQ : ClassId) (q0 q1 q2 q3 q4 : Nat) (S0 : cT) : ([0, 1, 2, 3, 4] : List Nat).map (fun i => (wT cI cZ q0 q1 q2 q3 q4 S0 : va_W)[i]?) = (wT cI cZ q0 q1 q2 q3 q4 S0 : va_W).map some := rfl
theorem hF_T_mayLie (cI cZ cQ : ClassId) {h0 a1 a2 a3 a4 : Nat} (S0 R0 : cT) : (wT cI cZ h0 a1 a2 a3 a4 R0 : va_W).map Prod.fst = (wT cI cZ h0 a1 a2 a3 a4 S0 : va_W).map Prod.fst := rfl
theorem hU_T_moveTo_3 (cI cZ cQ : ClassId) (q0 q1 q2 q3 q4 : Nat) (S0 : cT)  : vz_put (wT cI cZ q0 q1 q2 q3 q4 S0 : va_W) [0, 1, 2, 3, 4] (wT cI cZ q0 q1 q2 q3 q4 S0 : va_W) = wT cI cZ q0 q1 q2 q3 q4 S0 := (show vz_put ([(q0, .inr (0, [.ref q1, .ref q2, .ref q3, .ref q4, .int S0.2.2.2.2])), (q1, .inl (cZ, 40, .inl S0.1)), (q2, .inl (cI, 40, .inl S0.2.1)), (q3, .inl (cI, 40, .inl S0.2.2.1)), (q4, .inl (cI, 40, .inl S0.2.2.2.1))] : va_W) [0, 1, 2, 3, 4] ([(q0, .inr (0, [.ref q1, .ref q2, .ref q3, .ref q4, .int S0.2.2.2.2])), (q1, .inl (cZ, 40, .inl S0.1)), (q2, .inl (cI, 40, .inl S0.2.1)), (q3, .inl (cI, 40, .inl S0.2.2.1)), (q4, .inl (cI, 40, .inl S0.2.2.2.1))] : va_W) = [(q0, .inr (0, [.ref q1, .ref q2, .ref q3, .ref q4, .int S0.2.2.2.2])), (q1, .inl (cZ, 40, .inl S0.1)), (q2, .inl (cI, 40, .inl S0.2.1)), (q3, .inl (cI, 40, .inl S0.2.2.1)), (q4, .inl (cI, 40, .inl S0.2.2.2.1))] from rfl).trans rfl
theorem hC_T_moveTo_13 (cI cZ cQ : ClassId) (q0 q1 q2 q3 q4 : Nat) (S0 : cT) : ([0, 1, 2, 3, 4] : List Nat).map (fun i => (wT cI cZ q0 q1 q2 q3 q4 S0 : va_W)[i]?) = (wT cI cZ q0 q1 q2 q3 q4 S0 : va_W).map some := rfl
theorem hF_T_takeOut (cI cZ cQ : ClassId) {h0 a1 a2 a3 a4 : Nat} (S0 R0 : cT) : (wT cI cZ h0 a1 a2 a3 a4 R0 : va_W).map Prod.fst = (wT cI cZ h0 a1 a2 a3 a4 S0 : va_W).map Prod.fst := rfl
theorem hU_T_moveTo_13 (cI cZ cQ : ClassId) (q0 q1 q2 q3 q4 : Nat) (S0 : cT) (R0 : cT) : vz_put (wT cI cZ q0 q1 q2 q3 q4 S0 : va_W) [0, 1, 2, 3, 4] (wT cI cZ q0 q1 q2 q3 q4 R0 : va_W) = wT cI cZ q0 q1 q2 q3 q4 R0 := (show vz_put ([(q0, .inr (0, [.ref q1, .ref q2, .ref q3, .ref q4, .int S0.2.2.2.2])), (q1, .inl (cZ, 40, .inl S0.1)), (q2, .inl (cI, 40, .inl S0.2.1)), (q3, .inl (cI, 40, .inl S0.2.2.1)), (q4, .inl (cI, 40, .inl S0.2.2.2.1))] : va_W) [0, 1, 2, 3, 4] ([(q0, .inr (0, [.ref q1, .ref q2, .ref q3, .ref q4, .int R0.2.2.2.2])), (q1, .inl (cZ, 40, .inl R0.1)), (q2, .inl (cI, 40, .inl R0.2.1)), (q3, .inl (cI, 40, .inl R0.2.2.1)), (q4, .inl (cI, 40, .inl R0.2.2.2.1))] : va_W) = [(q0, .inr (0, [.ref q1, .ref q2, .ref q3, .ref q4, .int R0.2.2.2.2])), (q1, .inl (cZ, 40, .inl R0.1)), (q2, .inl (cI, 40, .inl R0.2.1)), (q3, .inl (cI, 40, .inl R0.2.2.1)), (q4, .inl (cI, 40, .inl R0.2.2.2.1))] from rfl).trans rfl
theorem hC_T_moveTo_20 (cI cZ cQ : ClassId) (q0 q1 q2 q3 q4 : Nat) (S0 : cT) : ([0, 1, 2, 3, 4] : List Nat).map (fun i => (wT cI cZ q0 q1 q2 q3 q4 S0 : va_W)[i]?) = (wT cI cZ q0 q1 q2 q3 q4 S0 : va_W).map some := rfl
theorem hF_T_spotBehind (cI cZ cQ : ClassId) {h0 a1 a2 a3 a4 : Nat} (S0 R0 : cT) : (wT cI cZ h0 a1 a2 a3 a4 R0 : va_W).map Prod.fst = (wT cI cZ h0 a1 a2 a3 a4 S0 : va_W).map Prod.fst := rfl
theorem hU_T_moveTo_20 (cI cZ cQ : ClassId) (q0 q1 q2 q3 q4 : Nat) (S0 : cT)  : vz_put (wT cI cZ q0 q1 q2 q3 q4 S0 : va_W) [0, 1, 2, 3, 4] (wT cI cZ q0 q1 q2 q3 q4 S0 : va_W) = wT cI cZ q0 q1 q2 q3 q4 S0 := (show vz_put ([(q0, .inr (0, [.ref q1, .ref q2, .ref q3, .ref q4, .int S0.2.2.2.2])), (q1, .inl (cZ, 40, .inl S0.1)), (q2, .inl (cI, 40, .inl S0.2.1)), (q3, .inl (cI, 40, .inl S0.2.2.1)), (q4, .inl (cI, 40, .inl S0.2.2.2.1))] : va_W) [0, 1, 2, 3, 4] ([(q0, .inr (0, [.ref q1, .ref q2, .ref q3, .ref q4, .int S0.2.2.2.2])), (q1, .inl (cZ, 40, .inl S0.1)), (q2, .inl (cI, 40, .inl S0.2.1)), (q3, .inl (cI, 40, .inl S0.2.2.1)), (q4, .inl (cI, 40, .inl S0.2.2.2.1))] : va_W) = [(q0, .inr (0, [.ref q1, .ref q2, .ref q3, .ref q4, .int S0.2.2.2.2])), (q1, .inl (cZ, 40, .inl S0.1)), (q2, .inl (cI, 40, .inl S0.2.1)), (q3, .inl (cI, 40, .inl S0.2.2.1)), (q4, .inl (cI, 40, .inl S0.2.2.2.1))] from rfl).trans rfl
theorem hC_T_moveTo_25 (cI cZ cQ : ClassId) (q0 q1 q2 q3 q4 : Nat) (S0 : cT) : ([0, 1, 2, 3, 4] : List Nat).map (fun i => (wT cI cZ q0 q1 q2 q3 q4 S0 : va_W)[i]?) = (wT cI cZ q0 q1 q2 q3 q4 S0 : va_W).map some := rfl
theorem hU_T_moveTo_25 (cI cZ cQ : ClassId) (q0 q1 q2 q3 q4 : Nat) (S0 : cT) (R0 : cT) : vz_put (wT cI cZ q0 q1 q2 q3 q4 S0 : va_W) [0, 1, 2, 3, 4] (wT cI cZ q0 q1 q2 q3 q4 R0 : va_W) = wT cI cZ q0 q1 q2 q3 q4 R0 := (show vz_put ([(q0, .inr (0, [.ref q1, .ref q2, .ref q3, .ref q4, .int S0.2.2.2.2])), (q1, .inl (cZ, 40, .inl S0.1)), (q2, .inl (cI, 40, .inl S0.2.1)), (q3, .inl (cI, 40, .inl S0.2.2.1)), (q4, .inl (cI, 40, .inl S0.2.2.2.1))] : va_W) [0, 1, 2, 3, 4] ([(q0, .inr (0, [.ref q1, .ref q2, .ref q3, .ref q4, .int R0.2.2.2.2])), (q1, .inl (cZ, 40, .inl R0.1)), (q2, .inl (cI, 40, .inl R0.2.1)), (q3, .inl (cI, 40, .inl R0.2.2.1)), (q4, .inl (cI, 40, .inl R0.2.2.2.1))] : va_W) = [(q0, .inr (0, [.ref q1, .ref q2, .ref q3, .ref q4, .int R0.2.2.2.2])), (q1, .inl (cZ, 40, .inl R0.1)), (q2, .inl (cI, 40, .inl R0.2.1)), (q3, .inl (cI, 40, .inl R0.2.2.1)), (q4, .inl (cI, 40, .inl R0.2.2.2.1))] from rfl).trans rfl
theorem hW_T_moveTo_34 (cI cZ cQ : ClassId) (q0 q1 q2 q3 q4 : Nat) (S0 : cT) (v : cA) : (wT cI cZ q0 q1 q2 q3 q4 S0 : va_W).set 3 (q3, .inl (cI, 40, .inl v)) = wT cI cZ q0 q1 q2 q3 q4 (S0.1, S0.2.1, v, S0.2.2.2.1, S0.2.2.2.2) := rfl
def m_T_moveTo (T : cT) (x1 : Int32) (x2 : Int32) (x3 : Int32) : Int32 × cT := (if (m_T_mayLie T x1 x2) = 0 then (0, T) else (1, ((m_T_putAt (m_T_takeOut T x1) (m_T_spotBehind (m_T_takeOut T x1) x3 x2) x1 x2).1, (m_T_putAt (m_T_takeOut T x1) (m_T_spotBehind (m_T_takeOut T x1) x3 x2) x1 x2).2.1, upd (m_T_putAt (m_T_takeOut T x1) (m_T_spotBehind (m_T_takeOut T x1) x3 x2) x1 x2).2.2.1 x1.toNatClampNeg x2, (m_T_putAt (m_T_takeOut T x1) (m_T_spotBehind (m_T_takeOut T x1) x3 x2) x1 x2).2.2.2.1, (m_T_putAt (m_T_takeOut T x1) (m_T_spotBehind (m_T_takeOut T x1) x3 x2) x1 x2).2.2.2.2)))
set_option maxHeartbeats 1000000 in
set_option maxRecDepth 100000 in
theorem c_T_moveTo (l : Launch) (dC : Nat → ClassId) (dI : Nat → Nat → Nat) (cI cZ cQ : ClassId) (h0 : Nat) (a1 : Nat) (a2 : Nat) (a3 : Nat) (a4 : Nat) (T : cT) (x1 : Int32) (x2 : Int32) (x3 : Int32) (hok : okT T) (h1 : 0 ≤ x1.toInt ∧ x1.toInt < 40) (h2 : 0 ≤ x2.toInt ∧ x2.toInt < 40) : vz_C l (dC, dI) classes [(cI, .int), (cZ, .boolean), (cQ, .object "BinTrees$Person")] y_T_moveTo (Cond.code y_T_moveTo b_T_moveTo 4 (some .boolean) :: vz_tbl) ({ frames := 2, cells := 0, slots := 0, locals := 49 }) [.ref h0, .int x1, .int x2, .int x3] (wT cI cZ h0 a1 a2 a3 a4 T) (some (.int ((m_T_moveTo T x1 x2 x3).1))) (wT cI cZ h0 a1 a2 a3 a4 ((m_T_moveTo T x1 x2 x3).2)) := by
  generalize hres : (m_T_moveTo T x1 x2 x3) = RES
  refine vz_C.of (by decide) (Nat.le_of_ble_eq_true rfl) ?_
  intro p e s m below meth c ls E hl hK hP hD hS
  obtain ⟨hx, hb, hr, hml, hown, hT, hlocks⟩ := E
  obtain ⟨Q, hQ⟩ : ∃ Q, Q = MQ below (vz_Q (dC, dI) classes (wT cI cZ h0 a1 a2 a3 a4 T) (some (.int RES.1)) (wT cI cZ h0 a1 a2 a3 a4 RES.2)) ([.ref h0, .int x1, .int x2, .int x3] : List Value).toArray s 0 0 (vz_A (wT cI cZ h0 a1 a2 a3 a4 T)) := ⟨_, rfl⟩
  rw [← hQ]
  have hl : lv_has ls 4 [(0, .ref h0), (1, .int x1), (2, .int x2), (3, .int x3)] := hl
  have T0 := ti_0
  have T1 := ti_1
  have Tm := ti_m1
  have T8 := ti_8
  have T39 := ti_39
  have T40 := ti_40
  have T4 := ti_4
  have T300 := ti_300
  have hS0 := hS
  refine lv_aload_n hx hb d_T_moveTo_0 rfl (lv_at hl 0 rfl) ?_
  refine lv_iload_n hx hb d_T_moveTo_1 rfl (lv_at hl 1 rfl) ?_
  refine lv_iload_n hx hb d_T_moveTo_2 rfl (lv_at hl 2 rfl) ?_
  have hc := c_T_mayLie l dC dI cI cZ cQ h0 a1 a2 a3 a4 T x1 x2 (hok) (h1) (h2)
  generalize hg_3 : (m_T_mayLie T x1 x2) = g_3 at hc
  refine vz_callV (As := [.int x1, .int x2]) (rest := []) ⟨hx, hb, hml, hown, hT⟩ hc (vz_goodV kw_193 kw_195 ks_6 kw_4 kw_196) ⟨rfl, hd_T_mayLie⟩ ⟨⟨rfl, rfl⟩, Nat.le_of_ble_eq_true rfl, Nat.le_of_ble_eq_true rfl⟩ hK hP hD hS [0, 1, 2, 3, 4] rfl (hC_T_moveTo_3 cI cZ cQ h0 a1 a2 a3 a4 T) (hF_T_mayLie cI cZ cQ _ _) 0 0 rfl rfl rfl rfl hl.1 rfl (Nat.le_of_ble_eq_true rfl) ⟨Nat.zero_le _, Nat.zero_le _⟩ d_T_moveTo_3 (fun H locs hP hD hS => ?_)
  have hP : va_P (dC, dI) classes (wT cI cZ h0 a1 a2 a3 a4 T) H := vz_reP (hU_T_moveTo_3 cI cZ cQ h0 a1 a2 a3 a4 T ) hP
  have hD : va_D (vz_A (wT cI cZ h0 a1 a2 a3 a4 T)) (wT cI cZ h0 a1 a2 a3 a4 T) := vz_reD (hU_T_moveTo_3 cI cZ cQ h0 a1 a2 a3 a4 T ) hD
  refine W.eq (g2 := F0 m 6 ls [.int g_3]) rfl ?_
  refine lv_if_ne (tgt := 11) hx hb d_T_moveTo_6 (by decide) (fun c_6 => ?_) (fun c_6 => ?_)
  · have z_6 : ¬ g_3.toInt = (0 : Int32).toInt := mt Int32.toInt_inj.mp c_6
    refine lv_aload_n hx hb d_T_moveTo_11 rfl (lv_at hl 0 rfl) ?_
    refine lv_iload_n hx hb d_T_moveTo_12 rfl (lv_at hl 1 rfl) ?_
    have hc := c_T_takeOut l dC dI cI cZ cQ h0 a1 a2 a3 a4 T x1 (ok_le hok)
    generalize hg_13 : (m_T_takeOut T x1) = g_13 at hc
    refine vz_callV (As := [.int x1]) (rest := []) ⟨hx, hb, hml, hown, hT⟩ hc (vz_goodV kw_201 kw_203 ks_7 kw_4 kw_204) ⟨rfl, hd_T_takeOut⟩ ⟨⟨rfl, rfl⟩, Nat.le_of_ble_eq_true rfl, Nat.le_of_ble_eq_true rfl⟩ hK hP hD hS [0, 1, 2, 3, 4] rfl (hC_T_moveTo_13 cI cZ cQ h0 a1 a2 a3 a4 T) (hF_T_takeOut cI cZ cQ _ _) 0 0 rfl rfl rfl rfl hl.1 rfl (Nat.le_of_ble_eq_true rfl) ⟨Nat.zero_le _, Nat.zero_le _⟩ d_T_moveTo_13 (fun H locs hP hD hS => ?_)
    have hP : va_P (dC, dI) classes (wT cI cZ h0 a1 a2 a3 a4 g_13) H := vz_reP (hU_T_moveTo_13 cI cZ cQ h0 a1 a2 a3 a4 T g_13) hP
    have hD : va_D (vz_A (wT cI cZ h0 a1 a2 a3 a4 T)) (wT cI cZ h0 a1 a2 a3 a4 g_13) := vz_reD (hU_T_moveTo_13 cI cZ cQ h0 a1 a2 a3 a4 T g_13) hD
    have ok1 : okT g_13 := by rw [← hg_13]; exact to_ok' hok
    refine W.eq (g2 := F0 m 16 ls []) rfl ?_
    refine lv_aload_n hx hb d_T_moveTo_16 rfl (lv_at hl 0 rfl) ?_
    refine lv_aload_n hx hb d_T_moveTo_17 rfl (lv_at hl 0 rfl) ?_
    refine lv_iload_n hx hb d_T_moveTo_18 rfl (lv_at hl 3 rfl) ?_
    refine lv_iload_n hx hb d_T_moveTo_19 rfl (lv_at hl 2 rfl) ?_
    have hc := c_T_spotBehind l dC dI cI cZ cQ h0 a1 a2 a3 a4 g_13 x3 x2 (ok_le ok1) (ok1.2.1)
    generalize hg_20 : (m_T_spotBehind g_13 x3 x2) = g_20 at hc
    refine vz_callV (As := [.int x3, .int x2]) (rest := [.ref h0]) ⟨hx, hb, hml, hown, hT⟩ hc (vz_goodV kw_205 kw_207 ks_8 kw_4 kw_208) ⟨rfl, hd_T_spotBehind⟩ ⟨⟨rfl, rfl⟩, Nat.le_of_ble_eq_true rfl, Nat.le_of_ble_eq_true rfl⟩ hK hP hD hS [0, 1, 2, 3, 4] rfl (hC_T_moveTo_20 cI cZ cQ h0 a1 a2 a3 a4 g_13) (hF_T_spotBehind cI cZ cQ _ _) 0 0 rfl rfl rfl rfl hl.1 rfl (Nat.le_of_ble_eq_true rfl) ⟨Nat.zero_le _, Nat.zero_le _⟩ d_T_moveTo_20 (fun H locs hP hD hS => ?_)
    have hP : va_P (dC, dI) classes (wT cI cZ h0 a1 a2 a3 a4 g_13) H := vz_reP (hU_T_moveTo_20 cI cZ cQ h0 a1 a2 a3 a4 g_13 ) hP
    have hD : va_D (vz_A (wT cI cZ h0 a1 a2 a3 a4 T)) (wT cI cZ h0 a1 a2 a3 a4 g_13) := vz_reD (hU_T_moveTo_20 cI cZ cQ h0 a1 a2 a3 a4 g_13 ) hD
    have sp1 : 0 ≤ g_20.toInt ∧ g_20.toInt ≤ g_13.2.2.2.2.toInt := by rw [← hg_20]; exact sb_rg' ok1
    refine W.eq (g2 := F0 m 23 ls [.int g_20, .ref h0]) rfl ?_
    refine lv_iload_n hx hb d_T_moveTo_23 rfl (lv_at hl 1 rfl) ?_
    refine lv_iload_n hx hb d_T_moveTo_24 rfl (lv_at hl 2 rfl) ?_
    have hc := c_T_putAt l dC dI cI cZ cQ h0 a1 a2 a3 a4 g_13 g_20 x1 x2 (ok_lt ok1) (sp1) (h1)
    generalize hg_25 : (m_T_putAt g_13 g_20 x1 x2) = g_25 at hc
    refine vz_callV (As := [.int g_20, .int x1, .int x2]) (rest := []) ⟨hx, hb, hml, hown, hT⟩ hc (vz_goodV kw_185 kw_187 ks_5 kw_4 kw_188) ⟨rfl, hd_T_putAt⟩ ⟨⟨rfl, rfl⟩, Nat.le_of_ble_eq_true rfl, Nat.le_of_ble_eq_true rfl⟩ hK hP hD hS [0, 1, 2, 3, 4] rfl (hC_T_moveTo_25 cI cZ cQ h0 a1 a2 a3 a4 g_13) (hF_T_putAt cI cZ cQ _ _) 0 0 rfl rfl rfl rfl hl.1 rfl (Nat.le_of_ble_eq_true rfl) ⟨Nat.zero_le _, Nat.zero_le _⟩ d_T_moveTo_25 (fun H locs hP hD hS => ?_)
    have hP : va_P (dC, dI) classes (wT cI cZ h0 a1 a2 a3 a4 g_25) H := vz_reP (hU_T_moveTo_25 cI cZ cQ h0 a1 a2 a3 a4 g_13 g_25) hP
    have hD : va_D (vz_A (wT cI cZ h0 a1 a2 a3 a4 T)) (wT cI cZ h0 a1 a2 a3 a4 g_25) := vz_reD (hU_T_moveTo_25 cI cZ cQ h0 a1 a2 a3 a4 g_13 g_25) hD
    refine W.eq (g2 := F0 m 28 ls []) rfl ?_
    refine lv_aload_n hx hb d_T_moveTo_28 rfl (lv_at hl 0 rfl) ?_
    refine va_get (D := (dC, dI)) (ci := 0) (v := .ref a3) (C := R_T) (T := F_T) (N := 5) hx hb hT i_T hown hK hP 0 rfl rfl 2 (by decide) (hT _ kw_90) (fun _ h9 => h9) rfl d_T_moveTo_29 ?_
    refine lv_iload_n hx hb d_T_moveTo_32 rfl (lv_at hl 1 rfl) ?_
    refine lv_iload_n hx hb d_T_moveTo_33 rfl (lv_at hl 2 rfl) ?_
    refine va_iast hx hb hK hP hD hS 3 0 rfl rfl (ti_vp (by omega) (by omega)) d_T_moveTo_34 (fun H locs hP hD hS => ?_)
    have hP : va_P (dC, dI) classes (wT cI cZ h0 a1 a2 a3 a4 (g_25.1, g_25.2.1, upd g_25.2.2.1 x1.toNatClampNeg x2, g_25.2.2.2.1, g_25.2.2.2.2)) H := vz_reP (hW_T_moveTo_34 cI cZ cQ h0 a1 a2 a3 a4 g_25 (upd g_25.2.2.1 x1.toNatClampNeg x2)) hP
    have hD : va_D (vz_A (wT cI cZ h0 a1 a2 a3 a4 T)) (wT cI cZ h0 a1 a2 a3 a4 (g_25.1, g_25.2.1, upd g_25.2.2.1 x1.toNatClampNeg x2, g_25.2.2.2.1, g_25.2.2.2.2)) := vz_reD (hW_T_moveTo_34 cI cZ cQ h0 a1 a2 a3 a4 g_25 (upd g_25.2.2.1 x1.toNatClampNeg x2)) hD
    refine lv_iconst (v := 1) hx hb d_T_moveTo_35 (by decide) ?_
    rw [m_T_moveTo] at hres
    try rw [hg_3] at hres
    rw [if_neg c_6] at hres
    try rw [hg_13] at hres
    try rw [hg_20] at hres
    try rw [hg_25] at hres
    subst hres
    subst hQ
    exact vz_zret hx hb hr (by decide) hlocks d_T_moveTo_36 hS rfl hP
  · have z_6 : g_3.toInt = (0 : Int32).toInt := congrArg Int32.toInt c_6
    refine lv_iconst (v := 0) hx hb d_T_moveTo_9 (by decide) ?_
    rw [m_T_moveTo] at hres
    try rw [hg_3] at hres
    rw [if_pos c_6] at hres
    subst hres
    subst hQ
    exact vz_zret hx hb hr (by decide) hlocks d_T_moveTo_10 hS rfl hP
