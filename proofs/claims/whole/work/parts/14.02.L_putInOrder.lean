theorem d_L_putInOrder_0 : decode b_L_putInOrder 0 = .ok (.aload_n 0, 1) := by decide +kernel
theorem d_L_putInOrder_1 : decode b_L_putInOrder 1 = .ok (.getfield 36, 3) := by decide +kernel
theorem d_L_putInOrder_4 : decode b_L_putInOrder 4 = .ok (.istore_n 2, 1) := by decide +kernel
theorem d_L_putInOrder_5 : decode b_L_putInOrder 5 = .ok (.iload_n 2, 1) := by decide +kernel
theorem d_L_putInOrder_6 : decode b_L_putInOrder 6 = .ok (.ifCond .le 39, 3) := by decide +kernel
theorem d_L_putInOrder_9 : decode b_L_putInOrder 9 = .ok (.aload_n 0, 1) := by decide +kernel
theorem d_L_putInOrder_10 : decode b_L_putInOrder 10 = .ok (.iload_n 1, 1) := by decide +kernel
theorem d_L_putInOrder_11 : decode b_L_putInOrder 11 = .ok (.aload_n 0, 1) := by decide +kernel
theorem d_L_putInOrder_12 : decode b_L_putInOrder 12 = .ok (.getfield 33, 3) := by decide +kernel
theorem d_L_putInOrder_15 : decode b_L_putInOrder 15 = .ok (.iload_n 2, 1) := by decide +kernel
theorem d_L_putInOrder_16 : decode b_L_putInOrder 16 = .ok (.iconst 1, 1) := by decide +kernel
theorem d_L_putInOrder_17 : decode b_L_putInOrder 17 = .ok (.isub, 1) := by decide +kernel
theorem d_L_putInOrder_18 : decode b_L_putInOrder 18 = .ok (.iaload, 1) := by decide +kernel
theorem d_L_putInOrder_19 : decode b_L_putInOrder 19 = .ok (.invokevirtual 44, 3) := by decide +kernel
theorem d_L_putInOrder_22 : decode b_L_putInOrder 22 = .ok (.ifCond .eq 23, 3) := by decide +kernel
theorem d_L_putInOrder_25 : decode b_L_putInOrder 25 = .ok (.aload_n 0, 1) := by decide +kernel
theorem d_L_putInOrder_26 : decode b_L_putInOrder 26 = .ok (.getfield 33, 3) := by decide +kernel
theorem d_L_putInOrder_29 : decode b_L_putInOrder 29 = .ok (.iload_n 2, 1) := by decide +kernel
theorem d_L_putInOrder_30 : decode b_L_putInOrder 30 = .ok (.aload_n 0, 1) := by decide +kernel
theorem d_L_putInOrder_31 : decode b_L_putInOrder 31 = .ok (.getfield 33, 3) := by decide +kernel
theorem d_L_putInOrder_34 : decode b_L_putInOrder 34 = .ok (.iload_n 2, 1) := by decide +kernel
theorem d_L_putInOrder_35 : decode b_L_putInOrder 35 = .ok (.iconst 1, 1) := by decide +kernel
theorem d_L_putInOrder_36 : decode b_L_putInOrder 36 = .ok (.isub, 1) := by decide +kernel
theorem d_L_putInOrder_37 : decode b_L_putInOrder 37 = .ok (.iaload, 1) := by decide +kernel
theorem d_L_putInOrder_38 : decode b_L_putInOrder 38 = .ok (.iastore, 1) := by decide +kernel
theorem d_L_putInOrder_39 : decode b_L_putInOrder 39 = .ok (.iinc 2 (-1), 3) := by decide +kernel
theorem d_L_putInOrder_42 : decode b_L_putInOrder 42 = .ok (.goto (-37), 3) := by decide +kernel
theorem d_L_putInOrder_45 : decode b_L_putInOrder 45 = .ok (.aload_n 0, 1) := by decide +kernel
theorem d_L_putInOrder_46 : decode b_L_putInOrder 46 = .ok (.getfield 33, 3) := by decide +kernel
theorem d_L_putInOrder_49 : decode b_L_putInOrder 49 = .ok (.iload_n 2, 1) := by decide +kernel
theorem d_L_putInOrder_50 : decode b_L_putInOrder 50 = .ok (.iload_n 1, 1) := by decide +kernel
theorem d_L_putInOrder_51 : decode b_L_putInOrder 51 = .ok (.iastore, 1) := by decide +kernel
theorem d_L_putInOrder_52 : decode b_L_putInOrder 52 = .ok (.return_, 1) := by decide +kernel
theorem hW_L_putInOrder_51 (cI cZ cQ : ClassId) (q0 q1 q2 q3 q4 q5 q6 q7 q8 : Nat) (S0 : cL) (v : cA) : (wL cI cZ q0 q1 q2 q3 q4 q5 q6 q7 q8 S0 : va_W).set 8 (q8, .inl (cI, 300, .inl v)) = wL cI cZ q0 q1 q2 q3 q4 q5 q6 q7 q8 (S0.1, S0.2.1, S0.2.2.1, S0.2.2.2.1, S0.2.2.2.2.1, S0.2.2.2.2.2.1, S0.2.2.2.2.2.2.1, v, S0.2.2.2.2.2.2.2.2.1, S0.2.2.2.2.2.2.2.2.2) := rfl
theorem hC_L_putInOrder_19 (cI cZ cQ : ClassId) (q0 q1 q2 q3 q4 q5 q6 q7 q8 : Nat) (S0 : cL) : ([0, 1, 2, 3, 4, 5, 6, 7, 8] : List Nat).map (fun i => (wL cI cZ q0 q1 q2 q3 q4 q5 q6 q7 q8 S0 : va_W)[i]?) = (wL cI cZ q0 q1 q2 q3 q4 q5 q6 q7 q8 S0 : va_W).map some := rfl
theorem hF_L_isAhead (cI cZ cQ : ClassId) {u0 u1 u2 u3 u4 u5 u6 u7 u8 : Nat} (S0 R0 : cL) : (wL cI cZ u0 u1 u2 u3 u4 u5 u6 u7 u8 R0 : va_W).map Prod.fst = (wL cI cZ u0 u1 u2 u3 u4 u5 u6 u7 u8 S0 : va_W).map Prod.fst := rfl
theorem hU_L_putInOrder_19 (cI cZ cQ : ClassId) (q0 q1 q2 q3 q4 q5 q6 q7 q8 : Nat) (S0 : cL)  : vz_put (wL cI cZ q0 q1 q2 q3 q4 q5 q6 q7 q8 S0 : va_W) [0, 1, 2, 3, 4, 5, 6, 7, 8] (wL cI cZ q0 q1 q2 q3 q4 q5 q6 q7 q8 S0 : va_W) = wL cI cZ q0 q1 q2 q3 q4 q5 q6 q7 q8 S0 := (show vz_put ([(q0, .inr (1, [.ref q1, .ref q2, .ref q3, .ref q4, .ref q5, .ref q6, .ref q7, .ref q8, .int S0.2.2.2.2.2.2.2.2.1, .int S0.2.2.2.2.2.2.2.2.2])), (q1, .inl (cI, 301, .inl S0.1)), (q2, .inl (cI, 301, .inl S0.2.1)), (q3, .inl (cI, 301, .inl S0.2.2.1)), (q4, .inl (cI, 301, .inl S0.2.2.2.1)), (q5, .inl (cI, 301, .inl S0.2.2.2.2.1)), (q6, .inl (cI, 301, .inl S0.2.2.2.2.2.1)), (q7, .inl (cI, 301, .inl S0.2.2.2.2.2.2.1)), (q8, .inl (cI, 300, .inl S0.2.2.2.2.2.2.2.1))] : va_W) [0, 1, 2, 3, 4, 5, 6, 7, 8] ([(q0, .inr (1, [.ref q1, .ref q2, .ref q3, .ref q4, .ref q5, .ref q6, .ref q7, .ref q8, .int S0.2.2.2.2.2.2.2.2.1, .int S0.2.2.2.2.2.2.2.2.2])), (q1, .inl (cI, 301, .inl S0.1)), (q2, .inl (cI, 301, .inl S0.2.1)), (q3, .inl (cI, 301, .inl S0.2.2.1)), (q4, .inl (cI, 301, .inl S0.2.2.2.1)), (q5, .inl (cI, 301, .inl S0.2.2.2.2.1)), (q6, .inl (cI, 301, .inl S0.2.2.2.2.2.1)), (q7, .inl (cI, 301, .inl S0.2.2.2.2.2.2.1)), (q8, .inl (cI, 300, .inl S0.2.2.2.2.2.2.2.1))] : va_W) = [(q0, .inr (1, [.ref q1, .ref q2, .ref q3, .ref q4, .ref q5, .ref q6, .ref q7, .ref q8, .int S0.2.2.2.2.2.2.2.2.1, .int S0.2.2.2.2.2.2.2.2.2])), (q1, .inl (cI, 301, .inl S0.1)), (q2, .inl (cI, 301, .inl S0.2.1)), (q3, .inl (cI, 301, .inl S0.2.2.1)), (q4, .inl (cI, 301, .inl S0.2.2.2.1)), (q5, .inl (cI, 301, .inl S0.2.2.2.2.1)), (q6, .inl (cI, 301, .inl S0.2.2.2.2.2.1)), (q7, .inl (cI, 301, .inl S0.2.2.2.2.2.2.1)), (q8, .inl (cI, 300, .inl S0.2.2.2.2.2.2.2.1))] from rfl).trans rfl
theorem hW_L_putInOrder_38 (cI cZ cQ : ClassId) (q0 q1 q2 q3 q4 q5 q6 q7 q8 : Nat) (S0 : cL) (v : cA) : (wL cI cZ q0 q1 q2 q3 q4 q5 q6 q7 q8 S0 : va_W).set 8 (q8, .inl (cI, 300, .inl v)) = wL cI cZ q0 q1 q2 q3 q4 q5 q6 q7 q8 (S0.1, S0.2.1, S0.2.2.1, S0.2.2.2.1, S0.2.2.2.2.1, S0.2.2.2.2.2.1, S0.2.2.2.2.2.2.1, v, S0.2.2.2.2.2.2.2.2.1, S0.2.2.2.2.2.2.2.2.2) := rfl
def l_L_putInOrder_5 (L : cL) (x1 : Int32) : Nat → Int32 → cA → cL
  | 0, _, _ => L
  | n + 1, x2, f => (if x2 ≤ 0 then (L.1, L.2.1, L.2.2.1, L.2.2.2.1, L.2.2.2.2.1, L.2.2.2.2.2.1, L.2.2.2.2.2.2.1, upd f x2.toNatClampNeg x1, L.2.2.2.2.2.2.2.2.1, L.2.2.2.2.2.2.2.2.2) else (if (m_L_isAhead (L.1, L.2.1, L.2.2.1, L.2.2.2.1, L.2.2.2.2.1, L.2.2.2.2.2.1, L.2.2.2.2.2.2.1, f, L.2.2.2.2.2.2.2.2.1, L.2.2.2.2.2.2.2.2.2) x1 (f (x2 - 1).toNatClampNeg)) = 0 then (L.1, L.2.1, L.2.2.1, L.2.2.2.1, L.2.2.2.2.1, L.2.2.2.2.2.1, L.2.2.2.2.2.2.1, upd f x2.toNatClampNeg x1, L.2.2.2.2.2.2.2.2.1, L.2.2.2.2.2.2.2.2.2) else (l_L_putInOrder_5 L x1 n (x2 + (-1)) (upd f x2.toNatClampNeg (f (x2 - 1).toNatClampNeg)))))
def m_L_putInOrder (L : cL) (x1 : Int32) : cL := (l_L_putInOrder_5 L x1 301 L.2.2.2.2.2.2.2.2.1 L.2.2.2.2.2.2.2.1)
set_option maxHeartbeats 1000000 in
set_option maxRecDepth 100000 in
theorem c_L_putInOrder (l : Launch) (dC : Nat → ClassId) (dI : Nat → Nat → Nat) (cI cZ cQ : ClassId) (u0 : Nat) (u1 : Nat) (u2 : Nat) (u3 : Nat) (u4 : Nat) (u5 : Nat) (u6 : Nat) (u7 : Nat) (u8 : Nat) (L : cL) (x1 : Int32) (hcnt : 0 ≤ L.2.2.2.2.2.2.2.2.1.toInt ∧ L.2.2.2.2.2.2.2.2.1.toInt < 300) (hord : ∀ j, j < 300 → 0 ≤ (L.2.2.2.2.2.2.2.1 j).toInt ∧ (L.2.2.2.2.2.2.2.1 j).toInt < 301) (h1 : 0 ≤ x1.toInt ∧ x1.toInt < 301) : vz_C l (dC, dI) classes [(cI, .int), (cZ, .boolean), (cQ, .object "BinTrees$Person")] y_L_putInOrder (Cond.code y_L_putInOrder b_L_putInOrder 3 none :: vz_tbl) ({ frames := 1, cells := 0, slots := 0, locals := 22 }) [.ref u0, .int x1] (wL cI cZ u0 u1 u2 u3 u4 u5 u6 u7 u8 L) (none) (wL cI cZ u0 u1 u2 u3 u4 u5 u6 u7 u8 (m_L_putInOrder L x1)) := by
  generalize hres : (m_L_putInOrder L x1) = RES
  refine vz_C.of (by decide) (Nat.le_of_ble_eq_true rfl) ?_
  intro p e s m below meth c ls E hl hK hP hD hS
  obtain ⟨hx, hb, hr, hml, hown, hT, hlocks⟩ := E
  obtain ⟨Q, hQ⟩ : ∃ Q, Q = MQ below (vz_Q (dC, dI) classes (wL cI cZ u0 u1 u2 u3 u4 u5 u6 u7 u8 L) (none) (wL cI cZ u0 u1 u2 u3 u4 u5 u6 u7 u8 RES)) ([.ref u0, .int x1] : List Value).toArray s 0 0 (vz_A (wL cI cZ u0 u1 u2 u3 u4 u5 u6 u7 u8 L)) := ⟨_, rfl⟩
  rw [← hQ]
  have hl : lv_has ls 3 [(0, .ref u0), (1, .int x1)] := hl
  have T0 := ti_0
  have T1 := ti_1
  have Tm := ti_m1
  have T8 := ti_8
  have T39 := ti_39
  have T40 := ti_40
  have T4 := ti_4
  have T300 := ti_300
  have k_5 : ∀ (n : Nat) (x2 : Int32) (f : cA), l_L_putInOrder_5 L x1 n x2 f = RES → (0 ≤ x2.toInt ∧ x2.toInt ≤ L.2.2.2.2.2.2.2.2.1.toInt ∧ x2.toInt < n) → (∀ j, j < 300 → 0 ≤ (f j).toInt ∧ (f j).toInt < 301) → ∀ (H : Heap) (locs : List Loc) (ls : Array Slot), va_P (dC, dI) classes (wL cI cZ u0 u1 u2 u3 u4 u5 u6 u7 u8 (L.1, L.2.1, L.2.2.1, L.2.2.2.1, L.2.2.2.2.1, L.2.2.2.2.2.1, L.2.2.2.2.2.2.1, f, L.2.2.2.2.2.2.2.2.1, L.2.2.2.2.2.2.2.2.2)) H → va_D (vz_A (wL cI cZ u0 u1 u2 u3 u4 u5 u6 u7 u8 L)) (wL cI cZ u0 u1 u2 u3 u4 u5 u6 u7 u8 (L.1, L.2.1, L.2.2.1, L.2.2.2.1, L.2.2.2.2.1, L.2.2.2.2.2.1, L.2.2.2.2.2.2.1, f, L.2.2.2.2.2.2.2.2.1, L.2.2.2.2.2.2.2.2.2)) → va_S (vz_A (wL cI cZ u0 u1 u2 u3 u4 u5 u6 u7 u8 L)) s.heap H locs → lv_has ls 3 [(0, .ref u0), (1, .int x1), (2, .int x2)] → W p l e ({ frames := 1, cells := 0, slots := 0, locals := 22 }) s m ([.ref u0, .int x1] : List Value).toArray below meth c H locs 0 0 Q (F0 m 5 ls []) := by
    intro n
    induction n with
    | zero =>
      intro x2 f hres i2 hf H locs ls hP hD hS hl
      exfalso
      omega
    | succ n ih =>
      intro x2 f hres i2 hf H locs ls hP hD hS hl
      refine lv_iload_n hx hb d_L_putInOrder_5 rfl (lv_at hl 2 rfl) ?_
      refine lv_if_le (tgt := 45) hx hb d_L_putInOrder_6 (by decide) (fun c_6 => ?_) (fun c_6 => ?_)
      · have z_6 : x2.toInt ≤ (0 : Int32).toInt := Int32.le_iff_toInt_le.mp c_6
        refine lv_aload_n hx hb d_L_putInOrder_45 rfl (lv_at hl 0 rfl) ?_
        refine va_get (D := (dC, dI)) (ci := 1) (v := .ref u8) (C := R_L) (T := F_L) (N := 10) hx hb hT i_L hown hK hP 0 rfl rfl 7 (by decide) (hT _ kw_40) (fun _ h9 => h9) rfl d_L_putInOrder_46 ?_
        refine lv_iload_n hx hb d_L_putInOrder_49 rfl (lv_at hl 2 rfl) ?_
        refine lv_iload_n hx hb d_L_putInOrder_50 rfl (lv_at hl 1 rfl) ?_
        refine va_iast hx hb hK hP hD hS 8 0 rfl rfl (ti_vp (by omega) (by omega)) d_L_putInOrder_51 (fun H locs hP hD hS => ?_)
        have hP : va_P (dC, dI) classes (wL cI cZ u0 u1 u2 u3 u4 u5 u6 u7 u8 (L.1, L.2.1, L.2.2.1, L.2.2.2.1, L.2.2.2.2.1, L.2.2.2.2.2.1, L.2.2.2.2.2.2.1, upd f x2.toNatClampNeg x1, L.2.2.2.2.2.2.2.2.1, L.2.2.2.2.2.2.2.2.2)) H := vz_reP (hW_L_putInOrder_51 cI cZ cQ u0 u1 u2 u3 u4 u5 u6 u7 u8 (L.1, L.2.1, L.2.2.1, L.2.2.2.1, L.2.2.2.2.1, L.2.2.2.2.2.1, L.2.2.2.2.2.2.1, f, L.2.2.2.2.2.2.2.2.1, L.2.2.2.2.2.2.2.2.2) (upd f x2.toNatClampNeg x1)) hP
        have hD : va_D (vz_A (wL cI cZ u0 u1 u2 u3 u4 u5 u6 u7 u8 L)) (wL cI cZ u0 u1 u2 u3 u4 u5 u6 u7 u8 (L.1, L.2.1, L.2.2.1, L.2.2.2.1, L.2.2.2.2.1, L.2.2.2.2.2.1, L.2.2.2.2.2.2.1, upd f x2.toNatClampNeg x1, L.2.2.2.2.2.2.2.2.1, L.2.2.2.2.2.2.2.2.2)) := vz_reD (hW_L_putInOrder_51 cI cZ cQ u0 u1 u2 u3 u4 u5 u6 u7 u8 (L.1, L.2.1, L.2.2.1, L.2.2.2.1, L.2.2.2.2.1, L.2.2.2.2.2.1, L.2.2.2.2.2.2.1, f, L.2.2.2.2.2.2.2.2.1, L.2.2.2.2.2.2.2.2.2) (upd f x2.toNatClampNeg x1)) hD
        rw [l_L_putInOrder_5, if_pos c_6] at hres
        subst hres
        subst hQ
        exact vz_vret hx hb hr hlocks d_L_putInOrder_52 hS rfl hP
      · have z_6 : ¬ x2.toInt ≤ (0 : Int32).toInt := mt Int32.le_iff_toInt_le.mpr c_6
        refine lv_aload_n hx hb d_L_putInOrder_9 rfl (lv_at hl 0 rfl) ?_
        refine lv_iload_n hx hb d_L_putInOrder_10 rfl (lv_at hl 1 rfl) ?_
        refine lv_aload_n hx hb d_L_putInOrder_11 rfl (lv_at hl 0 rfl) ?_
        refine va_get (D := (dC, dI)) (ci := 1) (v := .ref u8) (C := R_L) (T := F_L) (N := 10) hx hb hT i_L hown hK hP 0 rfl rfl 7 (by decide) (hT _ kw_40) (fun _ h9 => h9) rfl d_L_putInOrder_12 ?_
        refine lv_iload_n hx hb d_L_putInOrder_15 rfl (lv_at hl 2 rfl) ?_
        refine lv_iconst (v := 1) hx hb d_L_putInOrder_16 (by decide) ?_
        refine lv_isub hx hb d_L_putInOrder_17 ?_
        refine va_iald hx hb hK hP 8 0 rfl rfl (ti_vp (by rw [ti_dec' (by omega)]; omega) (by rw [ti_dec' (by omega)]; omega)) d_L_putInOrder_18 ?_
        have hc := c_L_isAhead l dC dI cI cZ cQ u0 u1 u2 u3 u4 u5 u6 u7 u8 (L.1, L.2.1, L.2.2.1, L.2.2.2.1, L.2.2.2.2.1, L.2.2.2.2.2.1, L.2.2.2.2.2.2.1, f, L.2.2.2.2.2.2.2.2.1, L.2.2.2.2.2.2.2.2.2) x1 (f (x2 - 1).toNatClampNeg) (h1) (hf _ (ti_ix (by rw [ti_dec' (by omega)]; omega) (by rw [ti_dec' (by omega)]; omega)))
        generalize hg_19 : (m_L_isAhead (L.1, L.2.1, L.2.2.1, L.2.2.2.1, L.2.2.2.2.1, L.2.2.2.2.2.1, L.2.2.2.2.2.2.1, f, L.2.2.2.2.2.2.2.2.1, L.2.2.2.2.2.2.2.2.2) x1 (f (x2 - 1).toNatClampNeg)) = g_19 at hc
        refine vz_callV (As := [.int x1, .int (f (x2 - 1).toNatClampNeg)]) (rest := []) ⟨hx, hb, hml, hown, hT⟩ hc (vz_goodV kw_154 kw_156 ks_2 kw_2 kw_157) ⟨rfl, hd_L_isAhead⟩ ⟨⟨rfl, rfl⟩, Nat.le_of_ble_eq_true rfl, Nat.le_of_ble_eq_true rfl⟩ hK hP hD hS [0, 1, 2, 3, 4, 5, 6, 7, 8] rfl (hC_L_putInOrder_19 cI cZ cQ u0 u1 u2 u3 u4 u5 u6 u7 u8 (L.1, L.2.1, L.2.2.1, L.2.2.2.1, L.2.2.2.2.1, L.2.2.2.2.2.1, L.2.2.2.2.2.2.1, f, L.2.2.2.2.2.2.2.2.1, L.2.2.2.2.2.2.2.2.2)) (hF_L_isAhead cI cZ cQ _ _) 0 1 rfl rfl rfl rfl hl.1 rfl (Nat.le_of_ble_eq_true rfl) ⟨Nat.zero_le _, Nat.zero_le _⟩ d_L_putInOrder_19 (fun H locs hP hD hS => ?_)
        have hP : va_P (dC, dI) classes (wL cI cZ u0 u1 u2 u3 u4 u5 u6 u7 u8 (L.1, L.2.1, L.2.2.1, L.2.2.2.1, L.2.2.2.2.1, L.2.2.2.2.2.1, L.2.2.2.2.2.2.1, f, L.2.2.2.2.2.2.2.2.1, L.2.2.2.2.2.2.2.2.2)) H := vz_reP (hU_L_putInOrder_19 cI cZ cQ u0 u1 u2 u3 u4 u5 u6 u7 u8 (L.1, L.2.1, L.2.2.1, L.2.2.2.1, L.2.2.2.2.1, L.2.2.2.2.2.1, L.2.2.2.2.2.2.1, f, L.2.2.2.2.2.2.2.2.1, L.2.2.2.2.2.2.2.2.2) ) hP
        have hD : va_D (vz_A (wL cI cZ u0 u1 u2 u3 u4 u5 u6 u7 u8 L)) (wL cI cZ u0 u1 u2 u3 u4 u5 u6 u7 u8 (L.1, L.2.1, L.2.2.1, L.2.2.2.1, L.2.2.2.2.1, L.2.2.2.2.2.1, L.2.2.2.2.2.2.1, f, L.2.2.2.2.2.2.2.2.1, L.2.2.2.2.2.2.2.2.2)) := vz_reD (hU_L_putInOrder_19 cI cZ cQ u0 u1 u2 u3 u4 u5 u6 u7 u8 (L.1, L.2.1, L.2.2.1, L.2.2.2.1, L.2.2.2.2.1, L.2.2.2.2.2.1, L.2.2.2.2.2.2.1, f, L.2.2.2.2.2.2.2.2.1, L.2.2.2.2.2.2.2.2.2) ) hD
        refine W.eq (g2 := F0 m 22 ls [.int g_19]) rfl ?_
        refine lv_if_eq (tgt := 45) hx hb d_L_putInOrder_22 (by decide) (fun c_22 => ?_) (fun c_22 => ?_)
        · have z_22 : g_19.toInt = (0 : Int32).toInt := congrArg Int32.toInt c_22
          refine lv_aload_n hx hb d_L_putInOrder_45 rfl (lv_at hl 0 rfl) ?_
          refine va_get (D := (dC, dI)) (ci := 1) (v := .ref u8) (C := R_L) (T := F_L) (N := 10) hx hb hT i_L hown hK hP 0 rfl rfl 7 (by decide) (hT _ kw_40) (fun _ h9 => h9) rfl d_L_putInOrder_46 ?_
          refine lv_iload_n hx hb d_L_putInOrder_49 rfl (lv_at hl 2 rfl) ?_
          refine lv_iload_n hx hb d_L_putInOrder_50 rfl (lv_at hl 1 rfl) ?_
          refine va_iast hx hb hK hP hD hS 8 0 rfl rfl (ti_vp (by omega) (by omega)) d_L_putInOrder_51 (fun H locs hP hD hS => ?_)
          have hP : va_P (dC, dI) classes (wL cI cZ u0 u1 u2 u3 u4 u5 u6 u7 u8 (L.1, L.2.1, L.2.2.1, L.2.2.2.1, L.2.2.2.2.1, L.2.2.2.2.2.1, L.2.2.2.2.2.2.1, upd f x2.toNatClampNeg x1, L.2.2.2.2.2.2.2.2.1, L.2.2.2.2.2.2.2.2.2)) H := vz_reP (hW_L_putInOrder_51 cI cZ cQ u0 u1 u2 u3 u4 u5 u6 u7 u8 (L.1, L.2.1, L.2.2.1, L.2.2.2.1, L.2.2.2.2.1, L.2.2.2.2.2.1, L.2.2.2.2.2.2.1, f, L.2.2.2.2.2.2.2.2.1, L.2.2.2.2.2.2.2.2.2) (upd f x2.toNatClampNeg x1)) hP
          have hD : va_D (vz_A (wL cI cZ u0 u1 u2 u3 u4 u5 u6 u7 u8 L)) (wL cI cZ u0 u1 u2 u3 u4 u5 u6 u7 u8 (L.1, L.2.1, L.2.2.1, L.2.2.2.1, L.2.2.2.2.1, L.2.2.2.2.2.1, L.2.2.2.2.2.2.1, upd f x2.toNatClampNeg x1, L.2.2.2.2.2.2.2.2.1, L.2.2.2.2.2.2.2.2.2)) := vz_reD (hW_L_putInOrder_51 cI cZ cQ u0 u1 u2 u3 u4 u5 u6 u7 u8 (L.1, L.2.1, L.2.2.1, L.2.2.2.1, L.2.2.2.2.1, L.2.2.2.2.2.1, L.2.2.2.2.2.2.1, f, L.2.2.2.2.2.2.2.2.1, L.2.2.2.2.2.2.2.2.2) (upd f x2.toNatClampNeg x1)) hD
          rw [l_L_putInOrder_5, if_neg c_6] at hres
          try rw [hg_19] at hres
          rw [if_pos c_22] at hres
          subst hres
          subst hQ
          exact vz_vret hx hb hr hlocks d_L_putInOrder_52 hS rfl hP
        · have z_22 : ¬ g_19.toInt = (0 : Int32).toInt := mt Int32.toInt_inj.mp c_22
          refine lv_aload_n hx hb d_L_putInOrder_25 rfl (lv_at hl 0 rfl) ?_
          refine va_get (D := (dC, dI)) (ci := 1) (v := .ref u8) (C := R_L) (T := F_L) (N := 10) hx hb hT i_L hown hK hP 0 rfl rfl 7 (by decide) (hT _ kw_40) (fun _ h9 => h9) rfl d_L_putInOrder_26 ?_
          refine lv_iload_n hx hb d_L_putInOrder_29 rfl (lv_at hl 2 rfl) ?_
          refine lv_aload_n hx hb d_L_putInOrder_30 rfl (lv_at hl 0 rfl) ?_
          refine va_get (D := (dC, dI)) (ci := 1) (v := .ref u8) (C := R_L) (T := F_L) (N := 10) hx hb hT i_L hown hK hP 0 rfl rfl 7 (by decide) (hT _ kw_40) (fun _ h9 => h9) rfl d_L_putInOrder_31 ?_
          refine lv_iload_n hx hb d_L_putInOrder_34 rfl (lv_at hl 2 rfl) ?_
          refine lv_iconst (v := 1) hx hb d_L_putInOrder_35 (by decide) ?_
          refine lv_isub hx hb d_L_putInOrder_36 ?_
          refine va_iald hx hb hK hP 8 0 rfl rfl (ti_vp (by rw [ti_dec' (by omega)]; omega) (by rw [ti_dec' (by omega)]; omega)) d_L_putInOrder_37 ?_
          refine va_iast hx hb hK hP hD hS 8 0 rfl rfl (ti_vp (by omega) (by omega)) d_L_putInOrder_38 (fun H locs hP hD hS => ?_)
          have hP : va_P (dC, dI) classes (wL cI cZ u0 u1 u2 u3 u4 u5 u6 u7 u8 (L.1, L.2.1, L.2.2.1, L.2.2.2.1, L.2.2.2.2.1, L.2.2.2.2.2.1, L.2.2.2.2.2.2.1, upd f x2.toNatClampNeg (f (x2 - 1).toNatClampNeg), L.2.2.2.2.2.2.2.2.1, L.2.2.2.2.2.2.2.2.2)) H := vz_reP (hW_L_putInOrder_38 cI cZ cQ u0 u1 u2 u3 u4 u5 u6 u7 u8 (L.1, L.2.1, L.2.2.1, L.2.2.2.1, L.2.2.2.2.1, L.2.2.2.2.2.1, L.2.2.2.2.2.2.1, f, L.2.2.2.2.2.2.2.2.1, L.2.2.2.2.2.2.2.2.2) (upd f x2.toNatClampNeg (f (x2 - 1).toNatClampNeg))) hP
          have hD : va_D (vz_A (wL cI cZ u0 u1 u2 u3 u4 u5 u6 u7 u8 L)) (wL cI cZ u0 u1 u2 u3 u4 u5 u6 u7 u8 (L.1, L.2.1, L.2.2.1, L.2.2.2.1, L.2.2.2.2.1, L.2.2.2.2.2.1, L.2.2.2.2.2.2.1, upd f x2.toNatClampNeg (f (x2 - 1).toNatClampNeg), L.2.2.2.2.2.2.2.2.1, L.2.2.2.2.2.2.2.2.2)) := vz_reD (hW_L_putInOrder_38 cI cZ cQ u0 u1 u2 u3 u4 u5 u6 u7 u8 (L.1, L.2.1, L.2.2.1, L.2.2.2.1, L.2.2.2.2.1, L.2.2.2.2.2.1, L.2.2.2.2.2.2.1, f, L.2.2.2.2.2.2.2.2.1, L.2.2.2.2.2.2.2.2.2) (upd f x2.toNatClampNeg (f (x2 - 1).toNatClampNeg))) hD
          refine lv_iinc (v := x2 + (-1)) (lv' := [(2, .int (x2 + (-1))), (0, .ref u0), (1, .int x1)]) hx hb d_L_putInOrder_39 hl (k := 2) rfl rfl (by decide) rfl (fun ls hl => ?_)
          refine lv_goto (tgt := 5) hx hb d_L_putInOrder_42 (by decide) ?_
          rw [l_L_putInOrder_5, if_neg c_6] at hres
          try rw [hg_19] at hres
          rw [if_neg c_22] at hres
          exact ih (x2 + (-1)) (upd f x2.toNatClampNeg (f (x2 - 1).toNatClampNeg))  hres (by rw [ti_dec (by omega)]; omega) (upd_rg hf (hf _ (ti_ix (by rw [ti_dec' (by omega)]; omega) (by rw [ti_dec' (by omega)]; omega)))) H locs ls hP hD hS (lv_sub hl [1, 2, 0] rfl)
  have hS0 := hS
  refine lv_aload_n hx hb d_L_putInOrder_0 rfl (lv_at hl 0 rfl) ?_
  refine va_get (D := (dC, dI)) (ci := 1) (v := .int L.2.2.2.2.2.2.2.2.1) (C := R_L) (T := F_L) (N := 10) hx hb hT i_L hown hK hP 0 rfl rfl 8 (by decide) (hT _ kw_43) (fun _ h9 => h9) rfl d_L_putInOrder_1 ?_
  refine lv_istore_n (lv' := [(2, .int L.2.2.2.2.2.2.2.2.1), (0, .ref u0), (1, .int x1)]) hx hb d_L_putInOrder_4 rfl hl (by decide) rfl (fun ls hl => ?_)
  rw [m_L_putInOrder] at hres
  exact k_5 301 L.2.2.2.2.2.2.2.2.1 L.2.2.2.2.2.2.2.1  hres (by omega) (hord) _ _ ls hP hD hS (lv_sub hl [1, 2, 0] rfl)
