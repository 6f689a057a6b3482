theorem d_T_sameAs_0 : decode b_T_sameAs 0 = .ok (.iconst 0, 1) := by decide +kernel
theorem d_T_sameAs_1 : decode b_T_sameAs 1 = .ok (.istore_n 2, 1) := by decide +kernel
theorem d_T_sameAs_2 : decode b_T_sameAs 2 = .ok (.iload_n 2, 1) := by decide +kernel
theorem d_T_sameAs_3 : decode b_T_sameAs 3 = .ok (.bipush 40, 2) := by decide +kernel
theorem d_T_sameAs_5 : decode b_T_sameAs 5 = .ok (.if_icmp .ge 65, 3) := by decide +kernel
theorem d_T_sameAs_8 : decode b_T_sameAs 8 = .ok (.aload_n 0, 1) := by decide +kernel
theorem d_T_sameAs_9 : decode b_T_sameAs 9 = .ok (.getfield 9, 3) := by decide +kernel
theorem d_T_sameAs_12 : decode b_T_sameAs 12 = .ok (.iload_n 2, 1) := by decide +kernel
theorem d_T_sameAs_13 : decode b_T_sameAs 13 = .ok (.baload, 1) := by decide +kernel
theorem d_T_sameAs_14 : decode b_T_sameAs 14 = .ok (.aload_n 1, 1) := by decide +kernel
theorem d_T_sameAs_15 : decode b_T_sameAs 15 = .ok (.getfield 9, 3) := by decide +kernel
theorem d_T_sameAs_18 : decode b_T_sameAs 18 = .ok (.iload_n 2, 1) := by decide +kernel
theorem d_T_sameAs_19 : decode b_T_sameAs 19 = .ok (.baload, 1) := by decide +kernel
theorem d_T_sameAs_20 : decode b_T_sameAs 20 = .ok (.if_icmp .eq 5, 3) := by decide +kernel
theorem d_T_sameAs_23 : decode b_T_sameAs 23 = .ok (.iconst 0, 1) := by decide +kernel
theorem d_T_sameAs_24 : decode b_T_sameAs 24 = .ok (.ireturn, 1) := by decide +kernel
theorem d_T_sameAs_25 : decode b_T_sameAs 25 = .ok (.aload_n 0, 1) := by decide +kernel
theorem d_T_sameAs_26 : decode b_T_sameAs 26 = .ok (.getfield 9, 3) := by decide +kernel
theorem d_T_sameAs_29 : decode b_T_sameAs 29 = .ok (.iload_n 2, 1) := by decide +kernel
theorem d_T_sameAs_30 : decode b_T_sameAs 30 = .ok (.baload, 1) := by decide +kernel
theorem d_T_sameAs_31 : decode b_T_sameAs 31 = .ok (.ifCond .eq 33, 3) := by decide +kernel
theorem d_T_sameAs_34 : decode b_T_sameAs 34 = .ok (.aload_n 0, 1) := by decide +kernel
theorem d_T_sameAs_35 : decode b_T_sameAs 35 = .ok (.getfield 15, 3) := by decide +kernel
theorem d_T_sameAs_38 : decode b_T_sameAs 38 = .ok (.iload_n 2, 1) := by decide +kernel
theorem d_T_sameAs_39 : decode b_T_sameAs 39 = .ok (.iaload, 1) := by decide +kernel
theorem d_T_sameAs_40 : decode b_T_sameAs 40 = .ok (.aload_n 1, 1) := by decide +kernel
theorem d_T_sameAs_41 : decode b_T_sameAs 41 = .ok (.getfield 15, 3) := by decide +kernel
theorem d_T_sameAs_44 : decode b_T_sameAs 44 = .ok (.iload_n 2, 1) := by decide +kernel
theorem d_T_sameAs_45 : decode b_T_sameAs 45 = .ok (.iaload, 1) := by decide +kernel
theorem d_T_sameAs_46 : decode b_T_sameAs 46 = .ok (.if_icmp .ne 16, 3) := by decide +kernel
theorem d_T_sameAs_49 : decode b_T_sameAs 49 = .ok (.aload_n 0, 1) := by decide +kernel
theorem d_T_sameAs_50 : decode b_T_sameAs 50 = .ok (.iload_n 2, 1) := by decide +kernel
theorem d_T_sameAs_51 : decode b_T_sameAs 51 = .ok (.invokevirtual 51, 3) := by decide +kernel
theorem d_T_sameAs_54 : decode b_T_sameAs 54 = .ok (.aload_n 1, 1) := by decide +kernel
theorem d_T_sameAs_55 : decode b_T_sameAs 55 = .ok (.iload_n 2, 1) := by decide +kernel
theorem d_T_sameAs_56 : decode b_T_sameAs 56 = .ok (.invokevirtual 51, 3) := by decide +kernel
theorem d_T_sameAs_59 : decode b_T_sameAs 59 = .ok (.if_icmp .eq 5, 3) := by decide +kernel
theorem d_T_sameAs_62 : decode b_T_sameAs 62 = .ok (.iconst 0, 1) := by decide +kernel
theorem d_T_sameAs_63 : decode b_T_sameAs 63 = .ok (.ireturn, 1) := by decide +kernel
theorem d_T_sameAs_64 : decode b_T_sameAs 64 = .ok (.iinc 2 1, 3) := by decide +kernel
theorem d_T_sameAs_67 : decode b_T_sameAs 67 = .ok (.goto (-65), 3) := by decide +kernel
theorem d_T_sameAs_70 : decode b_T_sameAs 70 = .ok (.iconst 1, 1) := by decide +kernel
theorem d_T_sameAs_71 : decode b_T_sameAs 71 = .ok (.ireturn, 1) := by decide +kernel
theorem hC_T_sameAs_51 (cI cZ cQ : ClassId) (q0 q1 q2 q3 q4 q5 q6 q7 q8 q9 : Nat) (S0 : cT) (S1 : cT) : ([0, 1, 2, 3, 4] : List Nat).map (fun i => (wT cI cZ q0 q1 q2 q3 q4 S0 ++ wT cI cZ q5 q6 q7 q8 q9 S1 : va_W)[i]?) = (wT cI cZ q0 q1 q2 q3 q4 S0 : va_W).map some := rfl
theorem hF_T_placeOf (cI cZ cQ : ClassId) {h0 a1 a2 a3 a4 : Nat} (S0 R0 : cT) : (wT cI cZ h0 a1 a2 a3 a4 R0 : va_W).map Prod.fst = (wT cI cZ h0 a1 a2 a3 a4 S0 : va_W).map Prod.fst := rfl
theorem hU_T_sameAs_51 (cI cZ cQ : ClassId) (q0 q1 q2 q3 q4 q5 q6 q7 q8 q9 : Nat) (S0 : cT) (S1 : cT)  : vz_put (wT cI cZ q0 q1 q2 q3 q4 S0 ++ wT cI cZ q5 q6 q7 q8 q9 S1 : va_W) [0, 1, 2, 3, 4] (wT cI cZ q0 q1 q2 q3 q4 S0 : va_W) = wT cI cZ q0 q1 q2 q3 q4 S0 ++ wT cI cZ q5 q6 q7 q8 q9 S1 := (show vz_put ([(q0, .inr (0, [.ref q1, .ref q2, .ref q3, .ref q4, .int S0.2.2.2.2])), (q1, .inl (cZ, 40, .inl S0.1)), (q2, .inl (cI, 40, .inl S0.2.1)), (q3, .inl (cI, 40, .inl S0.2.2.1)), (q4, .inl (cI, 40, .inl S0.2.2.2.1)), (q5, .inr (0, [.ref q6, .ref q7, .ref q8, .ref q9, .int S1.2.2.2.2])), (q6, .inl (cZ, 40, .inl S1.1)), (q7, .inl (cI, 40, .inl S1.2.1)), (q8, .inl (cI, 40, .inl S1.2.2.1)), (q9, .inl (cI, 40, .inl S1.2.2.2.1))] : va_W) [0, 1, 2, 3, 4] ([(q0, .inr (0, [.ref q1, .ref q2, .ref q3, .ref q4, .int S0.2.2.2.2])), (q1, .inl (cZ, 40, .inl S0.1)), (q2, .inl (cI, 40, .inl S0.2.1)), (q3, .inl (cI, 40, .inl S0.2.2.1)), (q4, .inl (cI, 40, .inl S0.2.2.2.1))] : va_W) = [(q0, .inr (0, [.ref q1, .ref q2, .ref q3, .ref q4, .int S0.2.2.2.2])), (q1, .inl (cZ, 40, .inl S0.1)), (q2, .inl (cI, 40, .inl S0.2.1)), (q3, .inl (cI, 40, .inl S0.2.2.1)), (q4, .inl (cI, 40, .inl S0.2.2.2.1)), (q5, .inr (0, [.ref q6, .ref q7, .ref q8, .ref q9, .int S1.2.2.2.2])), (q6, .inl (cZ, 40, .inl S1.1)), (q7, .inl (cI, 40, .inl S1.2.1)), (q8, .inl (cI, 40, .inl S1.2.2.1)), (q9, .inl (cI, 40, .inl S1.2.2.2.1))] from rfl).trans rfl
theorem hC_T_sameAs_56 (cI cZ cQ : ClassId) (q0 q1 q2 q3 q4 q5 q6 q7 q8 q9 : Nat) (S0 : cT) (S1 : cT) : ([5, 6, 7, 8, 9] : List Nat).map (fun i => (wT cI cZ q0 q1 q2 q3 q4 S0 ++ wT cI cZ q5 q6 q7 q8 q9 S1 : va_W)[i]?) = (wT cI cZ q5 q6 q7 q8 q9 S1 : va_W).map some := rfl
theorem hU_T_sameAs_56 (cI cZ cQ : ClassId) (q0 q1 q2 q3 q4 q5 q6 q7 q8 q9 : Nat) (S0 : cT) (S1 : cT)  : vz_put (wT cI cZ q0 q1 q2 q3 q4 S0 ++ wT cI cZ q5 q6 q7 q8 q9 S1 : va_W) [5, 6, 7, 8, 9] (wT cI cZ q5 q6 q7 q8 q9 S1 : va_W) = wT cI cZ q0 q1 q2 q3 q4 S0 ++ wT cI cZ q5 q6 q7 q8 q9 S1 := (show vz_put ([(q0, .inr (0, [.ref q1, .ref q2, .ref q3, .ref q4, .int S0.2.2.2.2])), (q1, .inl (cZ, 40, .inl S0.1)), (q2, .inl (cI, 40, .inl S0.2.1)), (q3, .inl (cI, 40, .inl S0.2.2.1)), (q4, .inl (cI, 40, .inl S0.2.2.2.1)), (q5, .inr (0, [.ref q6, .ref q7, .ref q8, .ref q9, .int S1.2.2.2.2])), (q6, .inl (cZ, 40, .inl S1.1)), (q7, .inl (cI, 40, .inl S1.2.1)), (q8, .inl (cI, 40, .inl S1.2.2.1)), (q9, .inl (cI, 40, .inl S1.2.2.2.1))] : va_W) [5, 6, 7, 8, 9] ([(q5, .inr (0, [.ref q6, .ref q7, .ref q8, .ref q9, .int S1.2.2.2.2])), (q6, .inl (cZ, 40, .inl S1.1)), (q7, .inl (cI, 40, .inl S1.2.1)), (q8, .inl (cI, 40, .inl S1.2.2.1)), (q9, .inl (cI, 40, .inl S1.2.2.2.1))] : va_W) = [(q0, .inr (0, [.ref q1, .ref q2, .ref q3, .ref q4, .int S0.2.2.2.2])), (q1, .inl (cZ, 40, .inl S0.1)), (q2, .inl (cI, 40, .inl S0.2.1)), (q3, .inl (cI, 40, .inl S0.2.2.1)), (q4, .inl (cI, 40, .inl S0.2.2.2.1)), (q5, .inr (0, [.ref q6, .ref q7, .ref q8, .ref q9, .int S1.2.2.2.2])), (q6, .inl (cZ, 40, .inl S1.1)), (q7, .inl (cI, 40, .inl S1.2.1)), (q8, .inl (cI, 40, .inl S1.2.2.1)), (q9, .inl (cI, 40, .inl S1.2.2.2.1))] from rfl).trans rfl
def l_T_sameAs_2 (T : cT) (U : cT) : Nat → Int32 → Int32
  | 0, _ => 0
  | n + 1, x2 => (if 40 ≤ x2 then 1 else (if (T.1 x2.toNatClampNeg) = (U.1 x2.toNatClampNeg) then (if (T.1 x2.toNatClampNeg) = 0 then (l_T_sameAs_2 T U n (x2 + 1)) else (if (T.2.1 x2.toNatClampNeg) = (U.2.1 x2.toNatClampNeg) then (if (m_T_placeOf T x2) = (m_T_placeOf U x2) then (l_T_sameAs_2 T U n (x2 + 1)) else 0) else 0)) else 0))
def m_T_sameAs (T : cT) (U : cT) : Int32 := (l_T_sameAs_2 T U 41 0)
set_option maxHeartbeats 1000000 in
set_option maxRecDepth 100000 in
theorem c_T_sameAs (l : Launch) (dC : Nat → ClassId) (dI : Nat → Nat → Nat) (cI cZ cQ : ClassId) (h0 : Nat) (a1 : Nat) (a2 : Nat) (a3 : Nat) (a4 : Nat) (T : cT) (k0 : Nat) (b1 : Nat) (b2 : Nat) (b3 : Nat) (b4 : Nat) (U : cT) (hok : okT T) (hokU : okT U) : vz_C l (dC, dI) classes [(cI, .int), (cZ, .boolean), (cQ, .object "BinTrees$Person")] y_T_sameAs (Cond.code y_T_sameAs b_T_sameAs 3 (some .boolean) :: vz_tbl) ({ frames := 1, cells := 0, slots := 0, locals := 23 }) [.ref h0, .ref k0] (wT cI cZ h0 a1 a2 a3 a4 T ++ wT cI cZ k0 b1 b2 b3 b4 U) (some (.int (m_T_sameAs T U))) (wT cI cZ h0 a1 a2 a3 a4 T ++ wT cI cZ k0 b1 b2 b3 b4 U) := by
  generalize hres : (m_T_sameAs T U) = RES
  refine vz_C.of (by decide) (Nat.le_of_ble_eq_true rfl) ?_
  intro p e s m below meth c ls E hl hK hP hD hS
  obtain ⟨hx, hb, hr, hml, hown, hT, hlocks⟩ := E
  obtain ⟨Q, hQ⟩ : ∃ Q, Q = MQ below (vz_Q (dC, dI) classes (wT cI cZ h0 a1 a2 a3 a4 T ++ wT cI cZ k0 b1 b2 b3 b4 U) (some (.int RES)) (wT cI cZ h0 a1 a2 a3 a4 T ++ wT cI cZ k0 b1 b2 b3 b4 U)) ([.ref h0, .ref k0] : List Value).toArray s 0 0 (vz_A (wT cI cZ h0 a1 a2 a3 a4 T ++ wT cI cZ k0 b1 b2 b3 b4 U)) := ⟨_, rfl⟩
  rw [← hQ]
  have hl : lv_has ls 3 [(0, .ref h0), (1, .ref k0)] := hl
  have T0 := ti_0
  have T1 := ti_1
  have Tm := ti_m1
  have T8 := ti_8
  have T39 := ti_39
  have T40 := ti_40
  have T4 := ti_4
  have T300 := ti_300
  have k_2 : ∀ (n : Nat) (x2 : Int32), l_T_sameAs_2 T U n x2 = RES → (0 ≤ x2.toInt ∧ x2.toInt ≤ 40 ∧ 40 < n + x2.toInt) → ∀ (H : Heap) (locs : List Loc) (ls : Array Slot), va_P (dC, dI) classes (wT cI cZ h0 a1 a2 a3 a4 T ++ wT cI cZ k0 b1 b2 b3 b4 U) H → va_D (vz_A (wT cI cZ h0 a1 a2 a3 a4 T ++ wT cI cZ k0 b1 b2 b3 b4 U)) (wT cI cZ h0 a1 a2 a3 a4 T ++ wT cI cZ k0 b1 b2 b3 b4 U) → va_S (vz_A (wT cI cZ h0 a1 a2 a3 a4 T ++ wT cI cZ k0 b1 b2 b3 b4 U)) s.heap H locs → lv_has ls 3 [(0, .ref h0), (1, .ref k0), (2, .int x2)] → W p l e ({ frames := 1, cells := 0, slots := 0, locals := 23 }) s m ([.ref h0, .ref k0] : List Value).toArray below meth c H locs 0 0 Q (F0 m 2 ls []) := by
    intro n
    induction n with
    | zero =>
      intro x2 hres i2 H locs ls hP hD hS hl
      exfalso
      omega
    | succ n ih =>
      intro x2 hres i2 H locs ls hP hD hS hl
      refine lv_iload_n hx hb d_T_sameAs_2 rfl (lv_at hl 2 rfl) ?_
      refine lv_bipush (v := 40) hx hb d_T_sameAs_3 (by decide) ?_
      refine lv_icmp_ge (tgt := 70) hx hb d_T_sameAs_5 (by decide) (fun c_5 => ?_) (fun c_5 => ?_)
      · have z_5 : (40 : Int32).toInt ≤ x2.toInt := Int32.le_iff_toInt_le.mp c_5
        refine lv_iconst (v := 1) hx hb d_T_sameAs_70 (by decide) ?_
        rw [l_T_sameAs_2, if_pos c_5] at hres
        subst hres
        subst hQ
        exact vz_zret hx hb hr (by decide) hlocks d_T_sameAs_71 hS rfl hP
      · have z_5 : ¬ (40 : Int32).toInt ≤ x2.toInt := mt Int32.le_iff_toInt_le.mpr c_5
        refine lv_aload_n hx hb d_T_sameAs_8 rfl (lv_at hl 0 rfl) ?_
        refine va_get (D := (dC, dI)) (ci := 0) (v := .ref a1) (C := R_T) (T := F_T) (N := 5) hx hb hT i_T hown hK hP 0 rfl rfl 0 (by decide) (hT _ kw_86) (fun _ h9 => h9) rfl d_T_sameAs_9 ?_
        refine lv_iload_n hx hb d_T_sameAs_12 rfl (lv_at hl 2 rfl) ?_
        refine va_zald hx hb hK hP 1 1 rfl rfl (ti_vp (by omega) (by omega)) d_T_sameAs_13 ?_
        refine lv_aload_n hx hb d_T_sameAs_14 rfl (lv_at hl 1 rfl) ?_
        refine va_get (D := (dC, dI)) (ci := 0) (v := .ref b1) (C := R_T) (T := F_T) (N := 5) hx hb hT i_T hown hK hP 5 rfl rfl 0 (by decide) (hT _ kw_86) (fun _ h9 => h9) rfl d_T_sameAs_15 ?_
        refine lv_iload_n hx hb d_T_sameAs_18 rfl (lv_at hl 2 rfl) ?_
        refine va_zald hx hb hK hP 6 1 rfl rfl (ti_vp (by omega) (by omega)) d_T_sameAs_19 ?_
        refine lv_icmp_eq (tgt := 25) hx hb d_T_sameAs_20 (by decide) (fun c_20 => ?_) (fun c_20 => ?_)
        · have z_20 : (T.1 x2.toNatClampNeg).toInt = (U.1 x2.toNatClampNeg).toInt := congrArg Int32.toInt c_20
          refine lv_aload_n hx hb d_T_sameAs_25 rfl (lv_at hl 0 rfl) ?_
          refine va_get (D := (dC, dI)) (ci := 0) (v := .ref a1) (C := R_T) (T := F_T) (N := 5) hx hb hT i_T hown hK hP 0 rfl rfl 0 (by decide) (hT _ kw_86) (fun _ h9 => h9) rfl d_T_sameAs_26 ?_
          refine lv_iload_n hx hb d_T_sameAs_29 rfl (lv_at hl 2 rfl) ?_
          refine va_zald hx hb hK hP 1 1 rfl rfl (ti_vp (by omega) (by omega)) d_T_sameAs_30 ?_
          refine lv_if_eq (tgt := 64) hx hb d_T_sameAs_31 (by decide) (fun c_31 => ?_) (fun c_31 => ?_)
          · have z_31 : (T.1 x2.toNatClampNeg).toInt = (0 : Int32).toInt := congrArg Int32.toInt c_31
            refine lv_iinc (v := x2 + 1) (lv' := [(2, .int (x2 + 1)), (0, .ref h0), (1, .ref k0)]) hx hb d_T_sameAs_64 hl (k := 2) rfl rfl (by decide) rfl (fun ls hl => ?_)
            refine lv_goto (tgt := 2) hx hb d_T_sameAs_67 (by decide) ?_
            rw [l_T_sameAs_2, if_neg c_5, if_pos c_20, if_pos c_31] at hres
            exact ih (x2 + 1)  hres (by rw [ti_inc (x := x2) (by omega)]; omega) H locs ls hP hD hS (lv_sub hl [1, 2, 0] rfl)
          · have z_31 : ¬ (T.1 x2.toNatClampNeg).toInt = (0 : Int32).toInt := mt Int32.toInt_inj.mp c_31
            refine lv_aload_n hx hb d_T_sameAs_34 rfl (lv_at hl 0 rfl) ?_
            refine va_get (D := (dC, dI)) (ci := 0) (v := .ref a2) (C := R_T) (T := F_T) (N := 5) hx hb hT i_T hown hK hP 0 rfl rfl 1 (by decide) (hT _ kw_88) (fun _ h9 => h9) rfl d_T_sameAs_35 ?_
            refine lv_iload_n hx hb d_T_sameAs_38 rfl (lv_at hl 2 rfl) ?_
            refine va_iald hx hb hK hP 2 0 rfl rfl (ti_vp (by omega) (by omega)) d_T_sameAs_39 ?_
            refine lv_aload_n hx hb d_T_sameAs_40 rfl (lv_at hl 1 rfl) ?_
            refine va_get (D := (dC, dI)) (ci := 0) (v := .ref b2) (C := R_T) (T := F_T) (N := 5) hx hb hT i_T hown hK hP 5 rfl rfl 1 (by decide) (hT _ kw_88) (fun _ h9 => h9) rfl d_T_sameAs_41 ?_
            refine lv_iload_n hx hb d_T_sameAs_44 rfl (lv_at hl 2 rfl) ?_
            refine va_iald hx hb hK hP 7 0 rfl rfl (ti_vp (by omega) (by omega)) d_T_sameAs_45 ?_
            refine lv_icmp_ne (tgt := 62) hx hb d_T_sameAs_46 (by decide) (fun c_46 => ?_) (fun c_46 => ?_)
            · have z_46 : ¬ (T.2.1 x2.toNatClampNeg).toInt = (U.2.1 x2.toNatClampNeg).toInt := mt Int32.toInt_inj.mp c_46
              refine lv_iconst (v := 0) hx hb d_T_sameAs_62 (by decide) ?_
              rw [l_T_sameAs_2, if_neg c_5, if_pos c_20, if_neg c_31, if_neg c_46] at hres
              subst hres
              subst hQ
              exact vz_zret hx hb hr (by decide) hlocks d_T_sameAs_63 hS rfl hP
            · have z_46 : (T.2.1 x2.toNatClampNeg).toInt = (U.2.1 x2.toNatClampNeg).toInt := congrArg Int32.toInt c_46
              refine lv_aload_n hx hb d_T_sameAs_49 rfl (lv_at hl 0 rfl) ?_
              refine lv_iload_n hx hb d_T_sameAs_50 rfl (lv_at hl 2 rfl) ?_
              have hc := c_T_placeOf l dC dI cI cZ cQ h0 a1 a2 a3 a4 T x2 (ok_le hok) (hok.2.1) (by omega)
              generalize hg_51 : (m_T_placeOf T x2) = g_51 at hc
              refine vz_callV (As := [.int x2]) (rest := []) ⟨hx, hb, hml, hown, hT⟩ hc (vz_goodV kw_305 kw_278 kw_279 kw_4 kw_280) ⟨rfl, hd_T_placeOf⟩ ⟨⟨rfl, rfl⟩, Nat.le_of_ble_eq_true rfl, Nat.le_of_ble_eq_true rfl⟩ hK hP hD hS [0, 1, 2, 3, 4] rfl (hC_T_sameAs_51 cI cZ cQ h0 a1 a2 a3 a4 k0 b1 b2 b3 b4 T U) (hF_T_placeOf cI cZ cQ _ _) 0 0 rfl rfl rfl rfl hl.1 rfl (Nat.le_of_ble_eq_true rfl) ⟨Nat.zero_le _, Nat.zero_le _⟩ d_T_sameAs_51 (fun H locs hP hD hS => ?_)
              have hP : va_P (dC, dI) classes (wT cI cZ h0 a1 a2 a3 a4 T ++ wT cI cZ k0 b1 b2 b3 b4 U) H := vz_reP (hU_T_sameAs_51 cI cZ cQ h0 a1 a2 a3 a4 k0 b1 b2 b3 b4 T U ) hP
              have hD : va_D (vz_A (wT cI cZ h0 a1 a2 a3 a4 T ++ wT cI cZ k0 b1 b2 b3 b4 U)) (wT cI cZ h0 a1 a2 a3 a4 T ++ wT cI cZ k0 b1 b2 b3 b4 U) := vz_reD (hU_T_sameAs_51 cI cZ cQ h0 a1 a2 a3 a4 k0 b1 b2 b3 b4 T U ) hD
              refine W.eq (g2 := F0 m 54 ls [.int g_51]) rfl ?_
              refine lv_aload_n hx hb d_T_sameAs_54 rfl (lv_at hl 1 rfl) ?_
              refine lv_iload_n hx hb d_T_sameAs_55 rfl (lv_at hl 2 rfl) ?_
              have hc := c_T_placeOf l dC dI cI cZ cQ k0 b1 b2 b3 b4 U x2 (ok_le hokU) (hokU.2.1) (by omega)
              generalize hg_56 : (m_T_placeOf U x2) = g_56 at hc
              refine vz_callV (As := [.int x2]) (rest := [.int g_51]) ⟨hx, hb, hml, hown, hT⟩ hc (vz_goodV kw_305 kw_278 kw_279 kw_4 kw_280) ⟨rfl, hd_T_placeOf⟩ ⟨⟨rfl, rfl⟩, Nat.le_of_ble_eq_true rfl, Nat.le_of_ble_eq_true rfl⟩ hK hP hD hS [5, 6, 7, 8, 9] rfl (hC_T_sameAs_56 cI cZ cQ h0 a1 a2 a3 a4 k0 b1 b2 b3 b4 T U) (hF_T_placeOf cI cZ cQ _ _) 0 0 rfl rfl rfl rfl hl.1 rfl (Nat.le_of_ble_eq_true rfl) ⟨Nat.zero_le _, Nat.zero_le _⟩ d_T_sameAs_56 (fun H locs hP hD hS => ?_)
              have hP : va_P (dC, dI) classes (wT cI cZ h0 a1 a2 a3 a4 T ++ wT cI cZ k0 b1 b2 b3 b4 U) H := vz_reP (hU_T_sameAs_56 cI cZ cQ h0 a1 a2 a3 a4 k0 b1 b2 b3 b4 T U ) hP
              have hD : va_D (vz_A (wT cI cZ h0 a1 a2 a3 a4 T ++ wT cI cZ k0 b1 b2 b3 b4 U)) (wT cI cZ h0 a1 a2 a3 a4 T ++ wT cI cZ k0 b1 b2 b3 b4 U) := vz_reD (hU_T_sameAs_56 cI cZ cQ h0 a1 a2 a3 a4 k0 b1 b2 b3 b4 T U ) hD
              refine W.eq (g2 := F0 m 59 ls [.int g_56, .int g_51]) rfl ?_
              refine lv_icmp_eq (tgt := 64) hx hb d_T_sameAs_59 (by decide) (fun c_59 => ?_) (fun c_59 => ?_)
              · have z_59 : g_51.toInt = g_56.toInt := congrArg Int32.toInt c_59
                refine lv_iinc (v := x2 + 1) (lv' := [(2, .int (x2 + 1)), (0, .ref h0), (1, .ref k0)]) hx hb d_T_sameAs_64 hl (k := 2) rfl rfl (by decide) rfl (fun ls hl => ?_)
                refine lv_goto (tgt := 2) hx hb d_T_sameAs_67 (by decide) ?_
                rw [l_T_sameAs_2, if_neg c_5, if_pos c_20, if_neg c_31, if_pos c_46] at hres
                try rw [hg_51] at hres
                try rw [hg_56] at hres
                rw [if_pos c_59] at hres
                exact ih (x2 + 1)  hres (by rw [ti_inc (x := x2) (by omega)]; omega) H locs ls hP hD hS (lv_sub hl [1, 2, 0] rfl)
              · have z_59 : ¬ g_51.toInt = g_56.toInt := mt Int32.toInt_inj.mp c_59
                refine lv_iconst (v := 0) hx hb d_T_sameAs_62 (by decide) ?_
                rw [l_T_sameAs_2, if_neg c_5, if_pos c_20, if_neg c_31, if_pos c_46] at hres
                try rw [hg_51] at hres
                try rw [hg_56] at hres
                rw [if_neg c_59] at hres
                subst hres
                subst hQ
                exact vz_zret hx hb hr (by decide) hlocks d_T_sameAs_63 hS rfl hP
        · have z_20 : ¬ (T.1 x2.toNatClampNeg).toInt = (U.1 x2.toNatClampNeg).toInt := mt Int32.toInt_inj.mp c_20
          refine lv_iconst (v := 0) hx hb d_T_sameAs_23 (by decide) ?_
          rw [l_T_sameAs_2, if_neg c_5, if_neg c_20] at hres
          subst hres
          subst hQ
          exact vz_zret hx hb hr (by decide) hlocks d_T_sameAs_24 hS rfl hP
  have hS0 := hS
  refine lv_iconst (v := 0) hx hb d_T_sameAs_0 (by decide) ?_
  refine lv_istore_n (lv' := [(2, .int 0), (0, .ref h0), (1, .ref k0)]) hx hb d_T_sameAs_1 rfl hl (by decide) rfl (fun ls hl => ?_)
  rw [m_T_sameAs] at hres
  exact k_2 41 0  hres (by omega) _ _ ls hP hD hS (lv_sub hl [1, 2, 0] rfl)
