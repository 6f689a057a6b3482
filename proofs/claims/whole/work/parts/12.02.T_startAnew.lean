theorem d_T_startAnew_0 : decode b_T_startAnew 0 = .ok (.iconst 0, 1) := by decide +kernel
theorem d_T_startAnew_1 : decode b_T_startAnew 1 = .ok (.istore_n 1, 1) := by decide +kernel
theorem d_T_startAnew_2 : decode b_T_startAnew 2 = .ok (.iload_n 1, 1) := by decide +kernel
theorem d_T_startAnew_3 : decode b_T_startAnew 3 = .ok (.bipush 40, 2) := by decide +kernel
theorem d_T_startAnew_5 : decode b_T_startAnew 5 = .ok (.if_icmp .ge 24, 3) := by decide +kernel
theorem d_T_startAnew_8 : decode b_T_startAnew 8 = .ok (.aload_n 0, 1) := by decide +kernel
theorem d_T_startAnew_9 : decode b_T_startAnew 9 = .ok (.getfield 9, 3) := by decide +kernel
theorem d_T_startAnew_12 : decode b_T_startAnew 12 = .ok (.iload_n 1, 1) := by decide +kernel
theorem d_T_startAnew_13 : decode b_T_startAnew 13 = .ok (.iload_n 1, 1) := by decide +kernel
theorem d_T_startAnew_14 : decode b_T_startAnew 14 = .ok (.ifCond .ne 7, 3) := by decide +kernel
theorem d_T_startAnew_17 : decode b_T_startAnew 17 = .ok (.iconst 1, 1) := by decide +kernel
theorem d_T_startAnew_18 : decode b_T_startAnew 18 = .ok (.goto 4, 3) := by decide +kernel
theorem d_T_startAnew_21 : decode b_T_startAnew 21 = .ok (.iconst 0, 1) := by decide +kernel
theorem d_T_startAnew_22 : decode b_T_startAnew 22 = .ok (.bastore, 1) := by decide +kernel
theorem d_T_startAnew_23 : decode b_T_startAnew 23 = .ok (.iinc 1 1, 3) := by decide +kernel
theorem d_T_startAnew_26 : decode b_T_startAnew 26 = .ok (.goto (-24), 3) := by decide +kernel
theorem d_T_startAnew_29 : decode b_T_startAnew 29 = .ok (.aload_n 0, 1) := by decide +kernel
theorem d_T_startAnew_30 : decode b_T_startAnew 30 = .ok (.getfield 15, 3) := by decide +kernel
theorem d_T_startAnew_33 : decode b_T_startAnew 33 = .ok (.iconst 0, 1) := by decide +kernel
theorem d_T_startAnew_34 : decode b_T_startAnew 34 = .ok (.iconst (-1), 1) := by decide +kernel
theorem d_T_startAnew_35 : decode b_T_startAnew 35 = .ok (.iastore, 1) := by decide +kernel
theorem d_T_startAnew_36 : decode b_T_startAnew 36 = .ok (.aload_n 0, 1) := by decide +kernel
theorem d_T_startAnew_37 : decode b_T_startAnew 37 = .ok (.getfield 19, 3) := by decide +kernel
theorem d_T_startAnew_40 : decode b_T_startAnew 40 = .ok (.iconst 0, 1) := by decide +kernel
theorem d_T_startAnew_41 : decode b_T_startAnew 41 = .ok (.iconst (-1), 1) := by decide +kernel
theorem d_T_startAnew_42 : decode b_T_startAnew 42 = .ok (.iastore, 1) := by decide +kernel
theorem d_T_startAnew_43 : decode b_T_startAnew 43 = .ok (.aload_n 0, 1) := by decide +kernel
theorem d_T_startAnew_44 : decode b_T_startAnew 44 = .ok (.iconst 0, 1) := by decide +kernel
theorem d_T_startAnew_45 : decode b_T_startAnew 45 = .ok (.putfield 28, 3) := by decide +kernel
theorem d_T_startAnew_48 : decode b_T_startAnew 48 = .ok (.return_, 1) := by decide +kernel
theorem hW_T_startAnew_35 (cI cZ cQ : ClassId) (q0 q1 q2 q3 q4 : Nat) (S0 : cT) (v : cA) : (wT cI cZ q0 q1 q2 q3 q4 S0 : va_W).set 2 (q2, .inl (cI, 40, .inl v)) = wT cI cZ q0 q1 q2 q3 q4 (S0.1, v, S0.2.2.1, S0.2.2.2.1, S0.2.2.2.2) := rfl
theorem hW_T_startAnew_42 (cI cZ cQ : ClassId) (q0 q1 q2 q3 q4 : Nat) (S0 : cT) (v : cA) : (wT cI cZ q0 q1 q2 q3 q4 S0 : va_W).set 3 (q3, .inl (cI, 40, .inl v)) = wT cI cZ q0 q1 q2 q3 q4 (S0.1, S0.2.1, v, S0.2.2.2.1, S0.2.2.2.2) := rfl
theorem hW_T_startAnew_45 (cI cZ cQ : ClassId) (q0 q1 q2 q3 q4 : Nat) (S0 : cT) (v : Int32) : (wT cI cZ q0 q1 q2 q3 q4 S0 : va_W).set 0 (q0, .inr (0, [.ref q1, .ref q2, .ref q3, .ref q4, .int S0.2.2.2.2].set 4 (.int v))) = wT cI cZ q0 q1 q2 q3 q4 (S0.1, S0.2.1, S0.2.2.1, S0.2.2.2.1, v) := rfl
theorem hW_T_startAnew_22 (cI cZ cQ : ClassId) (q0 q1 q2 q3 q4 : Nat) (S0 : cT) (v : cA) : (wT cI cZ q0 q1 q2 q3 q4 S0 : va_W).set 1 (q1, .inl (cZ, 40, .inl v)) = wT cI cZ q0 q1 q2 q3 q4 (v, S0.2.1, S0.2.2.1, S0.2.2.2.1, S0.2.2.2.2) := rfl
def l_T_startAnew_2 (T : cT) : Nat → Int32 → cA → cT
  | 0, _, _ => T
  | n + 1, x1, g => (if 40 ≤ x1 then (g, upd T.2.1 (0 : Int32).toNatClampNeg (-1), upd T.2.2.1 (0 : Int32).toNatClampNeg (-1), T.2.2.2.1, 0) else (if x1 = 0 then (l_T_startAnew_2 T n (x1 + 1) (upd g x1.toNatClampNeg 1)) else (l_T_startAnew_2 T n (x1 + 1) (upd g x1.toNatClampNeg 0))))
def m_T_startAnew (T : cT) : cT := (l_T_startAnew_2 T 41 0 T.1)
set_option maxHeartbeats 1000000 in
set_option maxRecDepth 100000 in
theorem c_T_startAnew (l : Launch) (dC : Nat → ClassId) (dI : Nat → Nat → Nat) (cI cZ cQ : ClassId) (h0 : Nat) (a1 : Nat) (a2 : Nat) (a3 : Nat) (a4 : Nat) (T : cT)  : vz_C l (dC, dI) classes [(cI, .int), (cZ, .boolean), (cQ, .object "BinTrees$Person")] y_T_startAnew (Cond.code y_T_startAnew b_T_startAnew 2 none :: vz_tbl) ({ frames := 0, cells := 0, slots := 0, locals := 0 }) [.ref h0] (wT cI cZ h0 a1 a2 a3 a4 T) (none) (wT cI cZ h0 a1 a2 a3 a4 (m_T_startAnew T)) := by
  generalize hres : (m_T_startAnew T) = RES
  refine vz_C.of (by decide) (Nat.le_of_ble_eq_true rfl) ?_
  intro p e s m below meth c ls E hl hK hP hD hS
  obtain ⟨hx, hb, hr, hml, hown, hT, hlocks⟩ := E
  obtain ⟨Q, hQ⟩ : ∃ Q, Q = MQ below (vz_Q (dC, dI) classes (wT cI cZ h0 a1 a2 a3 a4 T) (none) (wT cI cZ h0 a1 a2 a3 a4 RES)) ([.ref h0] : List Value).toArray s 0 0 (vz_A (wT cI cZ h0 a1 a2 a3 a4 T)) := ⟨_, rfl⟩
  rw [← hQ]
  have hl : lv_has ls 2 [(0, .ref h0)] := hl
  have T0 := ti_0
  have T1 := ti_1
  have Tm := ti_m1
  have T8 := ti_8
  have T39 := ti_39
  have T40 := ti_40
  have T4 := ti_4
  have T300 := ti_300
  have k_2 : ∀ (n : Nat) (x1 : Int32) (g : cA), l_T_startAnew_2 T n x1 g = RES → (0 ≤ x1.toInt ∧ x1.toInt ≤ 40 ∧ 40 < n + x1.toInt) → ∀ (H : Heap) (locs : List Loc) (ls : Array Slot), va_P (dC, dI) classes (wT cI cZ h0 a1 a2 a3 a4 (g, T.2.1, T.2.2.1, T.2.2.2.1, T.2.2.2.2)) H → va_D (vz_A (wT cI cZ h0 a1 a2 a3 a4 T)) (wT cI cZ h0 a1 a2 a3 a4 (g, T.2.1, T.2.2.1, T.2.2.2.1, T.2.2.2.2)) → va_S (vz_A (wT cI cZ h0 a1 a2 a3 a4 T)) s.heap H locs → lv_has ls 2 [(0, .ref h0), (1, .int x1)] → W p l e ({ frames := 0, cells := 0, slots := 0, locals := 0 }) s m ([.ref h0] : List Value).toArray below meth c H locs 0 0 Q (F0 m 2 ls []) := by
    intro n
    induction n with
    | zero =>
      intro x1 g hres i1 H locs ls hP hD hS hl
      exfalso
      omega
    | succ n ih =>
      intro x1 g hres i1 H locs ls hP hD hS hl
      refine lv_iload_n hx hb d_T_startAnew_2 rfl (lv_at hl 1 rfl) ?_
      refine lv_bipush (v := 40) hx hb d_T_startAnew_3 (by decide) ?_
      refine lv_icmp_ge (tgt := 29) hx hb d_T_startAnew_5 (by decide) (fun c_5 => ?_) (fun c_5 => ?_)
      · have z_5 : (40 : Int32).toInt ≤ x1.toInt := Int32.le_iff_toInt_le.mp c_5
        refine lv_aload_n hx hb d_T_startAnew_29 rfl (lv_at hl 0 rfl) ?_
        refine va_get (D := (dC, dI)) (ci := 0) (v := .ref a2) (C := R_T) (T := F_T) (N := 5) hx hb hT i_T hown hK hP 0 rfl rfl 1 (by decide) (hT _ kw_88) (fun _ h9 => h9) rfl d_T_startAnew_30 ?_
        refine lv_iconst (v := 0) hx hb d_T_startAnew_33 (by decide) ?_
        refine lv_iconst (v := -1) hx hb d_T_startAnew_34 (by decide) ?_
        refine va_iast hx hb hK hP hD hS 2 0 rfl rfl (ti_vp (by omega) (by omega)) d_T_startAnew_35 (fun H locs hP hD hS => ?_)
        have hP : va_P (dC, dI) classes (wT cI cZ h0 a1 a2 a3 a4 (g, upd T.2.1 (0 : Int32).toNatClampNeg (-1), T.2.2.1, T.2.2.2.1, T.2.2.2.2)) H := vz_reP (hW_T_startAnew_35 cI cZ cQ h0 a1 a2 a3 a4 (g, T.2.1, T.2.2.1, T.2.2.2.1, T.2.2.2.2) (upd T.2.1 (0 : Int32).toNatClampNeg (-1))) hP
        have hD : va_D (vz_A (wT cI cZ h0 a1 a2 a3 a4 T)) (wT cI cZ h0 a1 a2 a3 a4 (g, upd T.2.1 (0 : Int32).toNatClampNeg (-1), T.2.2.1, T.2.2.2.1, T.2.2.2.2)) := vz_reD (hW_T_startAnew_35 cI cZ cQ h0 a1 a2 a3 a4 (g, T.2.1, T.2.2.1, T.2.2.2.1, T.2.2.2.2) (upd T.2.1 (0 : Int32).toNatClampNeg (-1))) hD
        refine lv_aload_n hx hb d_T_startAnew_36 rfl (lv_at hl 0 rfl) ?_
        refine va_get (D := (dC, dI)) (ci := 0) (v := .ref a3) (C := R_T) (T := F_T) (N := 5) hx hb hT i_T hown hK hP 0 rfl rfl 2 (by decide) (hT _ kw_90) (fun _ h9 => h9) rfl d_T_startAnew_37 ?_
        refine lv_iconst (v := 0) hx hb d_T_startAnew_40 (by decide) ?_
        refine lv_iconst (v := -1) hx hb d_T_startAnew_41 (by decide) ?_
        refine va_iast hx hb hK hP hD hS 3 0 rfl rfl (ti_vp (by omega) (by omega)) d_T_startAnew_42 (fun H locs hP hD hS => ?_)
        have hP : va_P (dC, dI) classes (wT cI cZ h0 a1 a2 a3 a4 (g, upd T.2.1 (0 : Int32).toNatClampNeg (-1), upd T.2.2.1 (0 : Int32).toNatClampNeg (-1), T.2.2.2.1, T.2.2.2.2)) H := vz_reP (hW_T_startAnew_42 cI cZ cQ h0 a1 a2 a3 a4 (g, upd T.2.1 (0 : Int32).toNatClampNeg (-1), T.2.2.1, T.2.2.2.1, T.2.2.2.2) (upd T.2.2.1 (0 : Int32).toNatClampNeg (-1))) hP
        have hD : va_D (vz_A (wT cI cZ h0 a1 a2 a3 a4 T)) (wT cI cZ h0 a1 a2 a3 a4 (g, upd T.2.1 (0 : Int32).toNatClampNeg (-1), upd T.2.2.1 (0 : Int32).toNatClampNeg (-1), T.2.2.2.1, T.2.2.2.2)) := vz_reD (hW_T_startAnew_42 cI cZ cQ h0 a1 a2 a3 a4 (g, upd T.2.1 (0 : Int32).toNatClampNeg (-1), T.2.2.1, T.2.2.2.1, T.2.2.2.2) (upd T.2.2.1 (0 : Int32).toNatClampNeg (-1))) hD
        refine lv_aload_n hx hb d_T_startAnew_43 rfl (lv_at hl 0 rfl) ?_
        refine lv_iconst (v := 0) hx hb d_T_startAnew_44 (by decide) ?_
        refine va_put (D := (dC, dI)) (ci := 0) (v := .int 0) (ty := .int) (C := R_T) (T := F_T) (N := 5) hx hb hT i_T tt_T tt_T_ok n_T hown hK hP hD hS 0 rfl rfl 4 (by decide) (hT _ kw_93) (fun _ h9 => h9) rfl (by decide +kernel) rfl rfl (Nat.le_of_ble_eq_true rfl) d_T_startAnew_45 (fun H locs hP hD hS => ?_)
        have hP : va_P (dC, dI) classes (wT cI cZ h0 a1 a2 a3 a4 (g, upd T.2.1 (0 : Int32).toNatClampNeg (-1), upd T.2.2.1 (0 : Int32).toNatClampNeg (-1), T.2.2.2.1, 0)) H := vz_reP (hW_T_startAnew_45 cI cZ cQ h0 a1 a2 a3 a4 (g, upd T.2.1 (0 : Int32).toNatClampNeg (-1), upd T.2.2.1 (0 : Int32).toNatClampNeg (-1), T.2.2.2.1, T.2.2.2.2) 0) hP
        have hD : va_D (vz_A (wT cI cZ h0 a1 a2 a3 a4 T)) (wT cI cZ h0 a1 a2 a3 a4 (g, upd T.2.1 (0 : Int32).toNatClampNeg (-1), upd T.2.2.1 (0 : Int32).toNatClampNeg (-1), T.2.2.2.1, 0)) := vz_reD (hW_T_startAnew_45 cI cZ cQ h0 a1 a2 a3 a4 (g, upd T.2.1 (0 : Int32).toNatClampNeg (-1), upd T.2.2.1 (0 : Int32).toNatClampNeg (-1), T.2.2.2.1, T.2.2.2.2) 0) hD
        rw [l_T_startAnew_2, if_pos c_5] at hres
        subst hres
        subst hQ
        exact vz_vret hx hb hr hlocks d_T_startAnew_48 hS rfl hP
      · have z_5 : ¬ (40 : Int32).toInt ≤ x1.toInt := mt Int32.le_iff_toInt_le.mpr c_5
        refine lv_aload_n hx hb d_T_startAnew_8 rfl (lv_at hl 0 rfl) ?_
        refine va_get (D := (dC, dI)) (ci := 0) (v := .ref a1) (C := R_T) (T := F_T) (N := 5) hx hb hT i_T hown hK hP 0 rfl rfl 0 (by decide) (hT _ kw_86) (fun _ h9 => h9) rfl d_T_startAnew_9 ?_
        refine lv_iload_n hx hb d_T_startAnew_12 rfl (lv_at hl 1 rfl) ?_
        refine lv_iload_n hx hb d_T_startAnew_13 rfl (lv_at hl 1 rfl) ?_
        refine lv_if_ne (tgt := 21) hx hb d_T_startAnew_14 (by decide) (fun c_14 => ?_) (fun c_14 => ?_)
        · have z_14 : ¬ x1.toInt = (0 : Int32).toInt := mt Int32.toInt_inj.mp c_14
          refine lv_iconst (v := 0) hx hb d_T_startAnew_21 (by decide) ?_
          refine va_zast hx hb hK hP hD hS 1 1 rfl rfl (ti_vp (by omega) (by omega)) d_T_startAnew_22 (fun H locs hP hD hS => ?_)
          have hP : va_P (dC, dI) classes (wT cI cZ h0 a1 a2 a3 a4 (upd g x1.toNatClampNeg 0, T.2.1, T.2.2.1, T.2.2.2.1, T.2.2.2.2)) H := vz_reP (hW_T_startAnew_22 cI cZ cQ h0 a1 a2 a3 a4 (g, T.2.1, T.2.2.1, T.2.2.2.1, T.2.2.2.2) (upd g x1.toNatClampNeg 0)) hP
          have hD : va_D (vz_A (wT cI cZ h0 a1 a2 a3 a4 T)) (wT cI cZ h0 a1 a2 a3 a4 (upd g x1.toNatClampNeg 0, T.2.1, T.2.2.1, T.2.2.2.1, T.2.2.2.2)) := vz_reD (hW_T_startAnew_22 cI cZ cQ h0 a1 a2 a3 a4 (g, T.2.1, T.2.2.1, T.2.2.2.1, T.2.2.2.2) (upd g x1.toNatClampNeg 0)) hD
          refine lv_iinc (v := x1 + 1) (lv' := [(1, .int (x1 + 1)), (0, .ref h0)]) hx hb d_T_startAnew_23 hl (k := 1) rfl rfl (by decide) rfl (fun ls hl => ?_)
          refine lv_goto (tgt := 2) hx hb d_T_startAnew_26 (by decide) ?_
          rw [l_T_startAnew_2, if_neg c_5, if_neg c_14] at hres
          exact ih (x1 + 1) (upd g x1.toNatClampNeg 0)  hres (by rw [ti_inc (x := x1) (by omega)]; omega) H locs ls hP hD hS (lv_sub hl [1, 0] rfl)
        · have z_14 : x1.toInt = (0 : Int32).toInt := congrArg Int32.toInt c_14
          refine lv_iconst (v := 1) hx hb d_T_startAnew_17 (by decide) ?_
          refine lv_goto (tgt := 22) hx hb d_T_startAnew_18 (by decide) ?_
          refine va_zast hx hb hK hP hD hS 1 1 rfl rfl (ti_vp (by omega) (by omega)) d_T_startAnew_22 (fun H locs hP hD hS => ?_)
          have hP : va_P (dC, dI) classes (wT cI cZ h0 a1 a2 a3 a4 (upd g x1.toNatClampNeg 1, T.2.1, T.2.2.1, T.2.2.2.1, T.2.2.2.2)) H := vz_reP (hW_T_startAnew_22 cI cZ cQ h0 a1 a2 a3 a4 (g, T.2.1, T.2.2.1, T.2.2.2.1, T.2.2.2.2) (upd g x1.toNatClampNeg 1)) hP
          have hD : va_D (vz_A (wT cI cZ h0 a1 a2 a3 a4 T)) (wT cI cZ h0 a1 a2 a3 a4 (upd g x1.toNatClampNeg 1, T.2.1, T.2.2.1, T.2.2.2.1, T.2.2.2.2)) := vz_reD (hW_T_startAnew_22 cI cZ cQ h0 a1 a2 a3 a4 (g, T.2.1, T.2.2.1, T.2.2.2.1, T.2.2.2.2) (upd g x1.toNatClampNeg 1)) hD
          refine lv_iinc (v := x1 + 1) (lv' := [(1, .int (x1 + 1)), (0, .ref h0)]) hx hb d_T_startAnew_23 hl (k := 1) rfl rfl (by decide) rfl (fun ls hl => ?_)
          refine lv_goto (tgt := 2) hx hb d_T_startAnew_26 (by decide) ?_
          rw [l_T_startAnew_2, if_neg c_5, if_pos c_14] at hres
          exact ih (x1 + 1) (upd g x1.toNatClampNeg 1)  hres (by rw [ti_inc (x := x1) (by omega)]; omega) H locs ls hP hD hS (lv_sub hl [1, 0] rfl)
  have hS0 := hS
  refine lv_iconst (v := 0) hx hb d_T_startAnew_0 (by decide) ?_
  refine lv_istore_n (lv' := [(1, .int 0), (0, .ref h0)]) hx hb d_T_startAnew_1 rfl hl (by decide) rfl (fun ls hl => ?_)
  rw [m_T_startAnew] at hres
  exact k_2 41 0 T.1  hres (by omega) _ _ ls hP hD hS (lv_sub hl [1, 0] rfl)
