theorem d_T_bringIn_0 : decode b_T_bringIn 0 = .ok (.aload_n 0, 1) := by decide +kernel
theorem d_T_bringIn_1 : decode b_T_bringIn 1 = .ok (.getfield 9, 3) := by decide +kernel
theorem d_T_bringIn_4 : decode b_T_bringIn 4 = .ok (.iload_n 1, 1) := by decide +kernel
theorem d_T_bringIn_5 : decode b_T_bringIn 5 = .ok (.iconst 1, 1) := by decide +kernel
theorem d_T_bringIn_6 : decode b_T_bringIn 6 = .ok (.bastore, 1) := by decide +kernel
theorem d_T_bringIn_7 : decode b_T_bringIn 7 = .ok (.aload_n 0, 1) := by decide +kernel
theorem d_T_bringIn_8 : decode b_T_bringIn 8 = .ok (.getfield 19, 3) := by decide +kernel
theorem d_T_bringIn_11 : decode b_T_bringIn 11 = .ok (.iload_n 1, 1) := by decide +kernel
theorem d_T_bringIn_12 : decode b_T_bringIn 12 = .ok (.iconst 0, 1) := by decide +kernel
theorem d_T_bringIn_13 : decode b_T_bringIn 13 = .ok (.iastore, 1) := by decide +kernel
theorem d_T_bringIn_14 : decode b_T_bringIn 14 = .ok (.aload_n 0, 1) := by decide +kernel
theorem d_T_bringIn_15 : decode b_T_bringIn 15 = .ok (.aload_n 0, 1) := by decide +kernel
theorem d_T_bringIn_16 : decode b_T_bringIn 16 = .ok (.getfield 28, 3) := by decide +kernel
theorem d_T_bringIn_19 : decode b_T_bringIn 19 = .ok (.iload_n 1, 1) := by decide +kernel
theorem d_T_bringIn_20 : decode b_T_bringIn 20 = .ok (.iconst (-1), 1) := by decide +kernel
theorem d_T_bringIn_21 : decode b_T_bringIn 21 = .ok (.invokevirtual 32, 3) := by decide +kernel
theorem d_T_bringIn_24 : decode b_T_bringIn 24 = .ok (.return_, 1) := by decide +kernel
theorem hW_T_bringIn_6 (cI cZ cQ : ClassId) (q0 q1 q2 q3 q4 : Nat) (S0 : cT) (v : cA) : (wT cI cZ q0 q1 q2 q3 q4 S0 : va_W).set 1 (q1, .inl (cZ, 40, .inl v)) = wT cI cZ q0 q1 q2 q3 q4 (v, S0.2.1, S0.2.2.1, S0.2.2.2.1, S0.2.2.2.2) := rfl
theorem hW_T_bringIn_13 (cI cZ cQ : ClassId) (q0 q1 q2 q3 q4 : Nat) (S0 : cT) (v : cA) : (wT cI cZ q0 q1 q2 q3 q4 S0 : va_W).set 3 (q3, .inl (cI, 40, .inl v)) = wT cI cZ q0 q1 q2 q3 q4 (S0.1, S0.2.1, v, S0.2.2.2.1, S0.2.2.2.2) := rfl
theorem hC_T_bringIn_21 (cI cZ cQ : ClassId) (q0 q1 q2 q3 q4 : Nat) (S0 : cT) : ([0, 1, 2, 3, 4] : List Nat).map (fun i => (wT cI cZ q0 q1 q2 q3 q4 S0 : va_W)[i]?) = (wT cI cZ q0 q1 q2 q3 q4 S0 : va_W).map some := rfl
theorem hF_T_putAt (cI cZ cQ : ClassId) {h0 a1 a2 a3 a4 : Nat} (S0 R0 : cT) : (wT cI cZ h0 a1 a2 a3 a4 R0 : va_W).map Prod.fst = (wT cI cZ h0 a1 a2 a3 a4 S0 : va_W).map Prod.fst := rfl
theorem hU_T_bringIn_21 (cI cZ cQ : ClassId) (q0 q1 q2 q3 q4 : Nat) (S0 : cT) (R0 : cT) : vz_put (wT cI cZ q0 q1 q2 q3 q4 S0 : va_W) [0, 1, 2, 3, 4] (wT cI cZ q0 q1 q2 q3 q4 R0 : va_W) = wT cI cZ q0 q1 q2 q3 q4 R0 := (show vz_put ([(q0, .inr (0, [.ref q1, .ref q2, .ref q3, .ref q4, .int S0.2.2.2.2])), (q1, .inl (cZ, 40, .inl S0.1)), (q2, .inl (cI, 40, .inl S0.2.1)), (q3, .inl (cI, 40, .inl S0.2.2.1)), (q4, .inl (cI, 40, .inl S0.2.2.2.1))] : va_W) [0, 1, 2, 3, 4] ([(q0, .inr (0, [.ref q1, .ref q2, .ref q3, .ref q4, .int R0.2.2.2.2])), (q1, .inl (cZ, 40, .inl R0.1)), (q2, .inl (cI, 40, .inl R0.2.1)), (q3, .inl (cI, 40, .inl R0.2.2.1)), (q4, .inl (cI, 40, .inl R0.2.2.2.1))] : va_W) = [(q0, .inr (0, [.ref q1, .ref q2, .ref q3, .ref q4, .int R0.2.2.2.2])), (q1, .inl (cZ, 40, .inl R0.1)), (q2, .inl (cI, 40, .inl R0.2.1)), (q3, .inl (cI, 40, .inl R0.2.2.1)), (q4, .inl (cI, 40, .inl R0.2.2.2.1))] from rfl).trans rfl
def m_T_bringIn (T : cT) (x1 : Int32) : cT := (m_T_putAt (upd T.1 x1.toNatClampNeg 1, T.2.1, upd T.2.2.1 x1.toNatClampNeg 0, T.2.2.2.1, T.2.2.2.2) T.2.2.2.2 x1 (-1))
set_option maxHeartbeats 1000000 in
set_option maxRecDepth 100000 in
theorem c_T_bringIn (l : Launch) (dC : Nat → ClassId) (dI : Nat → Nat → Nat) (cI cZ cQ : ClassId) (h0 : Nat) (a1 : Nat) (a2 : Nat) (a3 : Nat) (a4 : Nat) (T : cT) (x1 : Int32) (hok : okT T) (h1 : 0 ≤ x1.toInt ∧ x1.toInt < 40) : vz_C l (dC, dI) classes [(cI, .int), (cZ, .boolean), (cQ, .object "BinTrees$Person")] y_T_bringIn (Cond.code y_T_bringIn b_T_bringIn 2 none :: vz_tbl) ({ frames := 1, cells := 0, slots := 0, locals := 24 }) [.ref h0, .int x1] (wT cI cZ h0 a1 a2 a3 a4 T) (none) (wT cI cZ h0 a1 a2 a3 a4 (m_T_bringIn T x1)) := by
  generalize hres : (m_T_bringIn T x1) = RES
  refine vz_C.of (by decide) (Nat.le_of_ble_eq_true rfl) ?_
  intro p e s m below meth c ls E hl hK hP hD hS
  obtain ⟨hx, hb, hr, hml, hown, hT, hlocks⟩ := E
  obtain ⟨Q, hQ⟩ : ∃ Q, Q = MQ below (vz_Q (dC, dI) classes (wT cI cZ h0 a1 a2 a3 a4 T) (none) (wT cI cZ h0 a1 a2 a3 a4 RES)) ([.ref h0, .int x1] : List Value).toArray s 0 0 (vz_A (wT cI cZ h0 a1 a2 a3 a4 T)) := ⟨_, rfl⟩
  rw [← hQ]
  have hl : lv_has ls 2 [(0, .ref h0), (1, .int x1)] := hl
  have T0 := ti_0
  have T1 := ti_1
  have Tm := ti_m1
  have T8 := ti_8
  have T39 := ti_39
  have T40 := ti_40
  have T4 := ti_4
  have T300 := ti_300
  have hsz := hok.2.2.1
  have hS0 := hS
  refine lv_aload_n hx hb d_T_bringIn_0 rfl (lv_at hl 0 rfl) ?_
  refine va_get (D := (dC, dI)) (ci := 0) (v := .ref a1) (C := R_T) (T := F_T) (N := 5) hx hb hT i_T hown hK hP 0 rfl rfl 0 (by decide) (hT _ kw_86) (fun _ h9 => h9) rfl d_T_bringIn_1 ?_
  refine lv_iload_n hx hb d_T_bringIn_4 rfl (lv_at hl 1 rfl) ?_
  refine lv_iconst (v := 1) hx hb d_T_bringIn_5 (by decide) ?_
  refine va_zast hx hb hK hP hD hS 1 1 rfl rfl (ti_vp (by omega) (by omega)) d_T_bringIn_6 (fun H locs hP hD hS => ?_)
  have hP : va_P (dC, dI) classes (wT cI cZ h0 a1 a2 a3 a4 (upd T.1 x1.toNatClampNeg 1, T.2.1, T.2.2.1, T.2.2.2.1, T.2.2.2.2)) H := vz_reP (hW_T_bringIn_6 cI cZ cQ h0 a1 a2 a3 a4 T (upd T.1 x1.toNatClampNeg 1)) hP
  have hD : va_D (vz_A (wT cI cZ h0 a1 a2 a3 a4 T)) (wT cI cZ h0 a1 a2 a3 a4 (upd T.1 x1.toNatClampNeg 1, T.2.1, T.2.2.1, T.2.2.2.1, T.2.2.2.2)) := vz_reD (hW_T_bringIn_6 cI cZ cQ h0 a1 a2 a3 a4 T (upd T.1 x1.toNatClampNeg 1)) hD
  refine lv_aload_n hx hb d_T_bringIn_7 rfl (lv_at hl 0 rfl) ?_
  refine va_get (D := (dC, dI)) (ci := 0) (v := .ref a3) (C := R_T) (T := F_T) (N := 5) hx hb hT i_T hown hK hP 0 rfl rfl 2 (by decide) (hT _ kw_90) (fun _ h9 => h9) rfl d_T_bringIn_8 ?_
  refine lv_iload_n hx hb d_T_bringIn_11 rfl (lv_at hl 1 rfl) ?_
  refine lv_iconst (v := 0) hx hb d_T_bringIn_12 (by decide) ?_
  refine va_iast hx hb hK hP hD hS 3 0 rfl rfl (ti_vp (by omega) (by omega)) d_T_bringIn_13 (fun H locs hP hD hS => ?_)
  have hP : va_P (dC, dI) classes (wT cI cZ h0 a1 a2 a3 a4 (upd T.1 x1.toNatClampNeg 1, T.2.1, upd T.2.2.1 x1.toNatClampNeg 0, T.2.2.2.1, T.2.2.2.2)) H := vz_reP (hW_T_bringIn_13 cI cZ cQ h0 a1 a2 a3 a4 (upd T.1 x1.toNatClampNeg 1, T.2.1, T.2.2.1, T.2.2.2.1, T.2.2.2.2) (upd T.2.2.1 x1.toNatClampNeg 0)) hP
  have hD : va_D (vz_A (wT cI cZ h0 a1 a2 a3 a4 T)) (wT cI cZ h0 a1 a2 a3 a4 (upd T.1 x1.toNatClampNeg 1, T.2.1, upd T.2.2.1 x1.toNatClampNeg 0, T.2.2.2.1, T.2.2.2.2)) := vz_reD (hW_T_bringIn_13 cI cZ cQ h0 a1 a2 a3 a4 (upd T.1 x1.toNatClampNeg 1, T.2.1, T.2.2.1, T.2.2.2.1, T.2.2.2.2) (upd T.2.2.1 x1.toNatClampNeg 0)) hD
  refine lv_aload_n hx hb d_T_bringIn_14 rfl (lv_at hl 0 rfl) ?_
  refine lv_aload_n hx hb d_T_bringIn_15 rfl (lv_at hl 0 rfl) ?_
  refine va_get (D := (dC, dI)) (ci := 0) (v := .int T.2.2.2.2) (C := R_T) (T := F_T) (N := 5) hx hb hT i_T hown hK hP 0 rfl rfl 4 (by decide) (hT _ kw_93) (fun _ h9 => h9) rfl d_T_bringIn_16 ?_
  refine lv_iload_n hx hb d_T_bringIn_19 rfl (lv_at hl 1 rfl) ?_
  refine lv_iconst (v := -1) hx hb d_T_bringIn_20 (by decide) ?_
  have hc := c_T_putAt l dC dI cI cZ cQ h0 a1 a2 a3 a4 (upd T.1 x1.toNatClampNeg 1, T.2.1, upd T.2.2.1 x1.toNatClampNeg 0, T.2.2.2.1, T.2.2.2.2) T.2.2.2.2 x1 (-1) (by dsimp only; omega) (by dsimp only; omega) (h1)
  generalize hg_21 : (m_T_putAt (upd T.1 x1.toNatClampNeg 1, T.2.1, upd T.2.2.1 x1.toNatClampNeg 0, T.2.2.2.1, T.2.2.2.2) T.2.2.2.2 x1 (-1)) = g_21 at hc
  refine vz_callV (As := [.int T.2.2.2.2, .int x1, .int (-1)]) (rest := []) ⟨hx, hb, hml, hown, hT⟩ hc (vz_goodV kw_185 kw_187 ks_5 kw_4 kw_188) ⟨rfl, hd_T_putAt⟩ ⟨⟨rfl, rfl⟩, Nat.le_of_ble_eq_true rfl, Nat.le_of_ble_eq_true rfl⟩ hK hP hD hS [0, 1, 2, 3, 4] rfl (hC_T_bringIn_21 cI cZ cQ h0 a1 a2 a3 a4 (upd T.1 x1.toNatClampNeg 1, T.2.1, upd T.2.2.1 x1.toNatClampNeg 0, T.2.2.2.1, T.2.2.2.2)) (hF_T_putAt cI cZ cQ _ _) 0 0 rfl rfl rfl rfl hl.1 rfl (Nat.le_of_ble_eq_true rfl) ⟨Nat.zero_le _, Nat.zero_le _⟩ d_T_bringIn_21 (fun H locs hP hD hS => ?_)
  have hP : va_P (dC, dI) classes (wT cI cZ h0 a1 a2 a3 a4 g_21) H := vz_reP (hU_T_bringIn_21 cI cZ cQ h0 a1 a2 a3 a4 (upd T.1 x1.toNatClampNeg 1, T.2.1, upd T.2.2.1 x1.toNatClampNeg 0, T.2.2.2.1, T.2.2.2.2) g_21) hP
  have hD : va_D (vz_A (wT cI cZ h0 a1 a2 a3 a4 T)) (wT cI cZ h0 a1 a2 a3 a4 g_21) := vz_reD (hU_T_bringIn_21 cI cZ cQ h0 a1 a2 a3 a4 (upd T.1 x1.toNatClampNeg 1, T.2.1, upd T.2.2.1 x1.toNatClampNeg 0, T.2.2.2.1, T.2.2.2.2) g_21) hD
  refine W.eq (g2 := F0 m 24 ls []) rfl ?_
  rw [m_T_bringIn] at hres
  try rw [hg_21] at hres
  subst hres
  subst hQ
  exact vz_vret hx hb hr hlocks d_T_bringIn_24 hS rfl hP
