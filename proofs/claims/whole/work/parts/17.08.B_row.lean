theorem d_B_row_0 : decode b_B_row 0 = .ok (.aload_n 0, 1) := by decide +kernel
theorem d_B_row_1 : decode b_B_row 1 = .ok (.iload_n 1, 1) := by decide +kernel
theorem d_B_row_2 : decode b_B_row 2 = .ok (.invokevirtual 48, 3) := by decide +kernel
theorem d_B_row_5 : decode b_B_row 5 = .ok (.ifCond .ne 5, 3) := by decide +kernel
theorem d_B_row_8 : decode b_B_row 8 = .ok (.iconst (-1), 1) := by decide +kernel
theorem d_B_row_9 : decode b_B_row 9 = .ok (.ireturn, 1) := by decide +kernel
theorem d_B_row_10 : decode b_B_row 10 = .ok (.iload_n 2, 1) := by decide +kernel
theorem d_B_row_11 : decode b_B_row 11 = .ok (.tableswitch 97 0 5 #[37, 47, 57, 67, 77, 87], 37) := by decide +kernel
theorem d_B_row_48 : decode b_B_row 48 = .ok (.aload_n 0, 1) := by decide +kernel
theorem d_B_row_49 : decode b_B_row 49 = .ok (.getfield 10, 3) := by decide +kernel
theorem d_B_row_52 : decode b_B_row 52 = .ok (.getfield 111, 3) := by decide +kernel
theorem d_B_row_55 : decode b_B_row 55 = .ok (.iload_n 1, 1) := by decide +kernel
theorem d_B_row_56 : decode b_B_row 56 = .ok (.iaload, 1) := by decide +kernel
theorem d_B_row_57 : decode b_B_row 57 = .ok (.ireturn, 1) := by decide +kernel
theorem d_B_row_58 : decode b_B_row 58 = .ok (.aload_n 0, 1) := by decide +kernel
theorem d_B_row_59 : decode b_B_row 59 = .ok (.getfield 10, 3) := by decide +kernel
theorem d_B_row_62 : decode b_B_row 62 = .ok (.getfield 114, 3) := by decide +kernel
theorem d_B_row_65 : decode b_B_row 65 = .ok (.iload_n 1, 1) := by decide +kernel
theorem d_B_row_66 : decode b_B_row 66 = .ok (.iaload, 1) := by decide +kernel
theorem d_B_row_67 : decode b_B_row 67 = .ok (.ireturn, 1) := by decide +kernel
theorem d_B_row_68 : decode b_B_row 68 = .ok (.aload_n 0, 1) := by decide +kernel
theorem d_B_row_69 : decode b_B_row 69 = .ok (.getfield 10, 3) := by decide +kernel
theorem d_B_row_72 : decode b_B_row 72 = .ok (.getfield 117, 3) := by decide +kernel
theorem d_B_row_75 : decode b_B_row 75 = .ok (.iload_n 1, 1) := by decide +kernel
theorem d_B_row_76 : decode b_B_row 76 = .ok (.iaload, 1) := by decide +kernel
theorem d_B_row_77 : decode b_B_row 77 = .ok (.ireturn, 1) := by decide +kernel
theorem d_B_row_78 : decode b_B_row 78 = .ok (.aload_n 0, 1) := by decide +kernel
theorem d_B_row_79 : decode b_B_row 79 = .ok (.getfield 10, 3) := by decide +kernel
theorem d_B_row_82 : decode b_B_row 82 = .ok (.getfield 119, 3) := by decide +kernel
theorem d_B_row_85 : decode b_B_row 85 = .ok (.iload_n 1, 1) := by decide +kernel
theorem d_B_row_86 : decode b_B_row 86 = .ok (.iaload, 1) := by decide +kernel
theorem d_B_row_87 : decode b_B_row 87 = .ok (.ireturn, 1) := by decide +kernel
theorem d_B_row_88 : decode b_B_row 88 = .ok (.aload_n 0, 1) := by decide +kernel
theorem d_B_row_89 : decode b_B_row 89 = .ok (.getfield 10, 3) := by decide +kernel
theorem d_B_row_92 : decode b_B_row 92 = .ok (.getfield 122, 3) := by decide +kernel
theorem d_B_row_95 : decode b_B_row 95 = .ok (.iload_n 1, 1) := by decide +kernel
theorem d_B_row_96 : decode b_B_row 96 = .ok (.iaload, 1) := by decide +kernel
theorem d_B_row_97 : decode b_B_row 97 = .ok (.ireturn, 1) := by decide +kernel
theorem d_B_row_98 : decode b_B_row 98 = .ok (.aload_n 0, 1) := by decide +kernel
theorem d_B_row_99 : decode b_B_row 99 = .ok (.getfield 10, 3) := by decide +kernel
theorem d_B_row_102 : decode b_B_row 102 = .ok (.getfield 123, 3) := by decide +kernel
theorem d_B_row_105 : decode b_B_row 105 = .ok (.iload_n 1, 1) := by decide +kernel
theorem d_B_row_106 : decode b_B_row 106 = .ok (.iaload, 1) := by decide +kernel
theorem d_B_row_107 : decode b_B_row 107 = .ok (.ireturn, 1) := by decide +kernel
theorem d_B_row_108 : decode b_B_row 108 = .ok (.iconst (-1), 1) := by decide +kernel
theorem d_B_row_109 : decode b_B_row 109 = .ok (.ireturn, 1) := by decide +kernel
theorem hC_B_row_2 (cI cZ cQ : ClassId) (q0 q1 q2 q3 q4 q5 q6 q7 q8 q9 q10 : Nat) (S0 : (Nat → Option Nat)) (S1 : cL) : ([0, 1, 2, 3, 4, 5, 6, 7, 8, 9, 10] : List Nat).map (fun i => (wB cI cZ cQ q0 q1 q2 S0 ++ wL cI cZ q2 q3 q4 q5 q6 q7 q8 q9 q10 S1 : va_W)[i]?) = (wB cI cZ cQ q0 q1 q2 S0 ++ wL cI cZ q2 q3 q4 q5 q6 q7 q8 q9 q10 S1 : va_W).map some := rfl
theorem hU_B_row_2 (cI cZ cQ : ClassId) (q0 q1 q2 q3 q4 q5 q6 q7 q8 q9 q10 : Nat) (S0 : (Nat → Option Nat)) (S1 : cL)  : vz_put (wB cI cZ cQ q0 q1 q2 S0 ++ wL cI cZ q2 q3 q4 q5 q6 q7 q8 q9 q10 S1 : va_W) [0, 1, 2, 3, 4, 5, 6, 7, 8, 9, 10] (wB cI cZ cQ q0 q1 q2 S0 ++ wL cI cZ q2 q3 q4 q5 q6 q7 q8 q9 q10 S1 : va_W) = wB cI cZ cQ q0 q1 q2 S0 ++ wL cI cZ q2 q3 q4 q5 q6 q7 q8 q9 q10 S1 := (show vz_put ([(q0, .inr (3, [.ref q2, .ref q1])), (q1, .inl (cQ, 4, .inr (.inr (.inr (.inr S0))))), (q2, .inr (1, [.ref q3, .ref q4, .ref q5, .ref q6, .ref q7, .ref q8, .ref q9, .ref q10, .int S1.2.2.2.2.2.2.2.2.1, .int S1.2.2.2.2.2.2.2.2.2])), (q3, .inl (cI, 301, .inl S1.1)), (q4, .inl (cI, 301, .inl S1.2.1)), (q5, .inl (cI, 301, .inl S1.2.2.1)), (q6, .inl (cI, 301, .inl S1.2.2.2.1)), (q7, .inl (cI, 301, .inl S1.2.2.2.2.1)), (q8, .inl (cI, 301, .inl S1.2.2.2.2.2.1)), (q9, .inl (cI, 301, .inl S1.2.2.2.2.2.2.1)), (q10, .inl (cI, 300, .inl S1.2.2.2.2.2.2.2.1))] : va_W) [0, 1, 2, 3, 4, 5, 6, 7, 8, 9, 10] ([(q0, .inr (3, [.ref q2, .ref q1])), (q1, .inl (cQ, 4, .inr (.inr (.inr (.inr S0))))), (q2, .inr (1, [.ref q3, .ref q4, .ref q5, .ref q6, .ref q7, .ref q8, .ref q9, .ref q10, .int S1.2.2.2.2.2.2.2.2.1, .int S1.2.2.2.2.2.2.2.2.2])), (q3, .inl (cI, 301, .inl S1.1)), (q4, .inl (cI, 301, .inl S1.2.1)), (q5, .inl (cI, 301, .inl S1.2.2.1)), (q6, .inl (cI, 301, .inl S1.2.2.2.1)), (q7, .inl (cI, 301, .inl S1.2.2.2.2.1)), (q8, .inl (cI, 301, .inl S1.2.2.2.2.2.1)), (q9, .inl (cI, 301, .inl S1.2.2.2.2.2.2.1)), (q10, .inl (cI, 300, .inl S1.2.2.2.2.2.2.2.1))] : va_W) = [(q0, .inr (3, [.ref q2, .ref q1])), (q1, .inl (cQ, 4, .inr (.inr (.inr (.inr S0))))), (q2, .inr (1, [.ref q3, .ref q4, .ref q5, .ref q6, .ref q7, .ref q8, .ref q9, .ref q10, .int S1.2.2.2.2.2.2.2.2.1, .int S1.2.2.2.2.2.2.2.2.2])), (q3, .inl (cI, 301, .inl S1.1)), (q4, .inl (cI, 301, .inl S1.2.1)), (q5, .inl (cI, 301, .inl S1.2.2.1)), (q6, .inl (cI, 301, .inl S1.2.2.2.1)), (q7, .inl (cI, 301, .inl S1.2.2.2.2.1)), (q8, .inl (cI, 301, .inl S1.2.2.2.2.2.1)), (q9, .inl (cI, 301, .inl S1.2.2.2.2.2.2.1)), (q10, .inl (cI, 300, .inl S1.2.2.2.2.2.2.2.1))] from rfl).trans rfl
def m_B_row (L : cL) (x1 : Int32) (x2 : Int32) : Int32 := (if (m_B_isRow L x1) = 0 then -1 else (if x2 = 0 then L.1 x1.toNatClampNeg else (if x2 = 1 then L.2.1 x1.toNatClampNeg else (if x2 = 2 then L.2.2.1 x1.toNatClampNeg else (if x2 = 3 then L.2.2.2.1 x1.toNatClampNeg else (if x2 = 4 then L.2.2.2.2.1 x1.toNatClampNeg else (if x2 = 5 then L.2.2.2.2.2.1 x1.toNatClampNeg else -1)))))))
set_option maxHeartbeats 1000000 in
set_option maxRecDepth 100000 in
theorem c_B_row (l : Launch) (dC : Nat → ClassId) (dI : Nat → Nat → Nat) (cI cZ cQ : ClassId) (b0 : Nat) (b1 : Nat) (F : Nat → Option Nat) (u0 : Nat) (u1 : Nat) (u2 : Nat) (u3 : Nat) (u4 : Nat) (u5 : Nat) (u6 : Nat) (u7 : Nat) (u8 : Nat) (L : cL) (x1 : Int32) (x2 : Int32) (hL : okL L) : vz_C l (dC, dI) classes [(cI, .int), (cZ, .boolean), (cQ, .object "BinTrees$Person")] y_B_row (Cond.code y_B_row b_B_row 3 (some .int) :: vz_tbl) ({ frames := 1, cells := 0, slots := 0, locals := 21 }) [.ref b0, .int x1, .int x2] (wB cI cZ cQ b0 b1 u0 F ++ wL cI cZ u0 u1 u2 u3 u4 u5 u6 u7 u8 L) (some (.int (m_B_row L x1 x2))) (wB cI cZ cQ b0 b1 u0 F ++ wL cI cZ u0 u1 u2 u3 u4 u5 u6 u7 u8 L) := by
  generalize hres : (m_B_row L x1 x2) = RES
  refine vz_C.of (by decide) (Nat.le_of_ble_eq_true rfl) ?_
  intro p e s m below meth c ls E hl hK hP hD hS
  obtain ⟨hx, hb, hr, hml, hown, hT, hlocks⟩ := E
  obtain ⟨Q, hQ⟩ : ∃ Q, Q = MQ below (vz_Q (dC, dI) classes (wB cI cZ cQ b0 b1 u0 F ++ wL cI cZ u0 u1 u2 u3 u4 u5 u6 u7 u8 L) (some (.int RES)) (wB cI cZ cQ b0 b1 u0 F ++ wL cI cZ u0 u1 u2 u3 u4 u5 u6 u7 u8 L)) ([.ref b0, .int x1, .int x2] : List Value).toArray s 0 0 (vz_A (wB cI cZ cQ b0 b1 u0 F ++ wL cI cZ u0 u1 u2 u3 u4 u5 u6 u7 u8 L)) := ⟨_, rfl⟩
  rw [← hQ]
  have hl : lv_has ls 3 [(0, .ref b0), (1, .int x1), (2, .int x2)] := hl
  have T0 := ti_0
  have T1 := ti_1
  have Tm := ti_m1
  have T8 := ti_8
  have T39 := ti_39
  have T40 := ti_40
  have T4 := ti_4
  have T300 := ti_300
  have hS0 := hS
  refine lv_aload_n hx hb d_B_row_0 rfl (lv_at hl 0 rfl) ?_
  refine lv_iload_n hx hb d_B_row_1 rfl (lv_at hl 1 rfl) ?_
  have hc := c_B_isRow l dC dI cI cZ cQ b0 b1 F u0 u1 u2 u3 u4 u5 u6 u7 u8 L x1 
  generalize hg_2 : (m_B_isRow L x1) = g_2 at hc
  refine vz_callV (As := [.int x1]) (rest := []) ⟨hx, hb, hml, hown, hT⟩ hc (vz_goodV kw_243 kw_245 ks_11 kw_1 kw_246) ⟨rfl, hd_B_isRow⟩ ⟨⟨rfl, rfl⟩, Nat.le_of_ble_eq_true rfl, Nat.le_of_ble_eq_true rfl⟩ hK hP hD hS [0, 1, 2, 3, 4, 5, 6, 7, 8, 9, 10] rfl (hC_B_row_2 cI cZ cQ b0 b1 u0 u1 u2 u3 u4 u5 u6 u7 u8 F L) (hF_B_isRow cI cZ cQ _ _ _ _) 0 3 rfl rfl rfl rfl hl.1 rfl (Nat.le_of_ble_eq_true rfl) ⟨Nat.zero_le _, Nat.zero_le _⟩ d_B_row_2 (fun H locs hP hD hS => ?_)
  have hP : va_P (dC, dI) classes (wB cI cZ cQ b0 b1 u0 F ++ wL cI cZ u0 u1 u2 u3 u4 u5 u6 u7 u8 L) H := vz_reP (hU_B_row_2 cI cZ cQ b0 b1 u0 u1 u2 u3 u4 u5 u6 u7 u8 F L ) hP
  have hD : va_D (vz_A (wB cI cZ cQ b0 b1 u0 F ++ wL cI cZ u0 u1 u2 u3 u4 u5 u6 u7 u8 L)) (wB cI cZ cQ b0 b1 u0 F ++ wL cI cZ u0 u1 u2 u3 u4 u5 u6 u7 u8 L) := vz_reD (hU_B_row_2 cI cZ cQ b0 b1 u0 u1 u2 u3 u4 u5 u6 u7 u8 F L ) hD
  refine W.eq (g2 := F0 m 5 ls [.int g_2]) rfl ?_
  refine lv_if_ne (tgt := 10) hx hb d_B_row_5 (by decide) (fun c_5 => ?_) (fun c_5 => ?_)
  · have z_5 : ¬ g_2.toInt = (0 : Int32).toInt := mt Int32.toInt_inj.mp c_5
    refine lv_iload_n hx hb d_B_row_10 rfl (lv_at hl 2 rfl) ?_
    by_cases c_11_0 : x2 = 0
    · refine lv_tableIn (off := 37) (tgt := 48) hx hb d_B_row_11 (by rw [c_11_0]; decide) (by rw [c_11_0]; decide) (by rw [c_11_0]; decide) (by decide) ?_
      refine lv_aload_n hx hb d_B_row_48 rfl (lv_at hl 0 rfl) ?_
      refine va_get (D := (dC, dI)) (ci := 3) (v := .ref u0) (C := R_B) (T := F_B) (N := 2) hx hb hT i_B hown hK hP 0 rfl rfl 0 (by decide) (hT _ kw_128) (fun _ h9 => h9) rfl d_B_row_49 ?_
      refine va_get (D := (dC, dI)) (ci := 1) (v := .ref u1) (C := R_L) (T := F_L) (N := 10) hx hb hT i_L hown hK hP 2 rfl rfl 0 (by decide) (hT _ kw_23) (fun _ h9 => h9) rfl d_B_row_52 ?_
      refine lv_iload_n hx hb d_B_row_55 rfl (lv_at hl 1 rfl) ?_
      refine va_iald hx hb hK hP 3 0 rfl rfl (by have hr1 := isr_t (L := L) (x1 := x1) (by rw [hg_2]; assumption); have hl1 := hL.1; exact ti_vp (by omega) (by omega)) d_B_row_56 ?_
      rw [m_B_row] at hres
      try rw [hg_2] at hres
      rw [if_neg c_5, if_pos c_11_0] at hres
      subst hres
      subst hQ
      exact vz_iret hx hb hr hlocks d_B_row_57 hS rfl hP
    · by_cases c_11_1 : x2 = 1
      · refine lv_tableIn (off := 47) (tgt := 58) hx hb d_B_row_11 (by rw [c_11_1]; decide) (by rw [c_11_1]; decide) (by rw [c_11_1]; decide) (by decide) ?_
        refine lv_aload_n hx hb d_B_row_58 rfl (lv_at hl 0 rfl) ?_
        refine va_get (D := (dC, dI)) (ci := 3) (v := .ref u0) (C := R_B) (T := F_B) (N := 2) hx hb hT i_B hown hK hP 0 rfl rfl 0 (by decide) (hT _ kw_128) (fun _ h9 => h9) rfl d_B_row_59 ?_
        refine va_get (D := (dC, dI)) (ci := 1) (v := .ref u2) (C := R_L) (T := F_L) (N := 10) hx hb hT i_L hown hK hP 2 rfl rfl 1 (by decide) (hT _ kw_25) (fun _ h9 => h9) rfl d_B_row_62 ?_
        refine lv_iload_n hx hb d_B_row_65 rfl (lv_at hl 1 rfl) ?_
        refine va_iald hx hb hK hP 4 0 rfl rfl (by have hr1 := isr_t (L := L) (x1 := x1) (by rw [hg_2]; assumption); have hl1 := hL.1; exact ti_vp (by omega) (by omega)) d_B_row_66 ?_
        rw [m_B_row] at hres
        try rw [hg_2] at hres
        rw [if_neg c_5, if_neg c_11_0, if_pos c_11_1] at hres
        subst hres
        subst hQ
        exact vz_iret hx hb hr hlocks d_B_row_67 hS rfl hP
      · by_cases c_11_2 : x2 = 2
        · refine lv_tableIn (off := 57) (tgt := 68) hx hb d_B_row_11 (by rw [c_11_2]; decide) (by rw [c_11_2]; decide) (by rw [c_11_2]; decide) (by decide) ?_
          refine lv_aload_n hx hb d_B_row_68 rfl (lv_at hl 0 rfl) ?_
          refine va_get (D := (dC, dI)) (ci := 3) (v := .ref u0) (C := R_B) (T := F_B) (N := 2) hx hb hT i_B hown hK hP 0 rfl rfl 0 (by decide) (hT _ kw_128) (fun _ h9 => h9) rfl d_B_row_69 ?_
          refine va_get (D := (dC, dI)) (ci := 1) (v := .ref u3) (C := R_L) (T := F_L) (N := 10) hx hb hT i_L hown hK hP 2 rfl rfl 2 (by decide) (hT _ kw_28) (fun _ h9 => h9) rfl d_B_row_72 ?_
          refine lv_iload_n hx hb d_B_row_75 rfl (lv_at hl 1 rfl) ?_
          refine va_iald hx hb hK hP 5 0 rfl rfl (by have hr1 := isr_t (L := L) (x1 := x1) (by rw [hg_2]; assumption); have hl1 := hL.1; exact ti_vp (by omega) (by omega)) d_B_row_76 ?_
          rw [m_B_row] at hres
          try rw [hg_2] at hres
          rw [if_neg c_5, if_neg c_11_0, if_neg c_11_1, if_pos c_11_2] at hres
          subst hres
          subst hQ
          exact vz_iret hx hb hr hlocks d_B_row_77 hS rfl hP
        · by_cases c_11_3 : x2 = 3
          · refine lv_tableIn (off := 67) (tgt := 78) hx hb d_B_row_11 (by rw [c_11_3]; decide) (by rw [c_11_3]; decide) (by rw [c_11_3]; decide) (by decide) ?_
            refine lv_aload_n hx hb d_B_row_78 rfl (lv_at hl 0 rfl) ?_
            refine va_get (D := (dC, dI)) (ci := 3) (v := .ref u0) (C := R_B) (T := F_B) (N := 2) hx hb hT i_B hown hK hP 0 rfl rfl 0 (by decide) (hT _ kw_128) (fun _ h9 => h9) rfl d_B_row_79 ?_
            refine va_get (D := (dC, dI)) (ci := 1) (v := .ref u4) (C := R_L) (T := F_L) (N := 10) hx hb hT i_L hown hK hP 2 rfl rfl 3 (by decide) (hT _ kw_31) (fun _ h9 => h9) rfl d_B_row_82 ?_
            refine lv_iload_n hx hb d_B_row_85 rfl (lv_at hl 1 rfl) ?_
            refine va_iald hx hb hK hP 6 0 rfl rfl (by have hr1 := isr_t (L := L) (x1 := x1) (by rw [hg_2]; assumption); have hl1 := hL.1; exact ti_vp (by omega) (by omega)) d_B_row_86 ?_
            rw [m_B_row] at hres
            try rw [hg_2] at hres
            rw [if_neg c_5, if_neg c_11_0, if_neg c_11_1, if_neg c_11_2, if_pos c_11_3] at hres
            subst hres
            subst hQ
            exact vz_iret hx hb hr hlocks d_B_row_87 hS rfl hP
          · by_cases c_11_4 : x2 = 4
            · refine lv_tableIn (off := 77) (tgt := 88) hx hb d_B_row_11 (by rw [c_11_4]; decide) (by rw [c_11_4]; decide) (by rw [c_11_4]; decide) (by decide) ?_
              refine lv_aload_n hx hb d_B_row_88 rfl (lv_at hl 0 rfl) ?_
              refine va_get (D := (dC, dI)) (ci := 3) (v := .ref u0) (C := R_B) (T := F_B) (N := 2) hx hb hT i_B hown hK hP 0 rfl rfl 0 (by decide) (hT _ kw_128) (fun _ h9 => h9) rfl d_B_row_89 ?_
              refine va_get (D := (dC, dI)) (ci := 1) (v := .ref u5) (C := R_L) (T := F_L) (N := 10) hx hb hT i_L hown hK hP 2 rfl rfl 4 (by decide) (hT _ kw_34) (fun _ h9 => h9) rfl d_B_row_92 ?_
              refine lv_iload_n hx hb d_B_row_95 rfl (lv_at hl 1 rfl) ?_
              refine va_iald hx hb hK hP 7 0 rfl rfl (by have hr1 := isr_t (L := L) (x1 := x1) (by rw [hg_2]; assumption); have hl1 := hL.1; exact ti_vp (by omega) (by omega)) d_B_row_96 ?_
              rw [m_B_row] at hres
              try rw [hg_2] at hres
              rw [if_neg c_5, if_neg c_11_0, if_neg c_11_1, if_neg c_11_2, if_neg c_11_3, if_pos c_11_4] at hres
              subst hres
              subst hQ
              exact vz_iret hx hb hr hlocks d_B_row_97 hS rfl hP
            · by_cases c_11_5 : x2 = 5
              · refine lv_tableIn (off := 87) (tgt := 98) hx hb d_B_row_11 (by rw [c_11_5]; decide) (by rw [c_11_5]; decide) (by rw [c_11_5]; decide) (by decide) ?_
                refine lv_aload_n hx hb d_B_row_98 rfl (lv_at hl 0 rfl) ?_
                refine va_get (D := (dC, dI)) (ci := 3) (v := .ref u0) (C := R_B) (T := F_B) (N := 2) hx hb hT i_B hown hK hP 0 rfl rfl 0 (by decide) (hT _ kw_128) (fun _ h9 => h9) rfl d_B_row_99 ?_
                refine va_get (D := (dC, dI)) (ci := 1) (v := .ref u6) (C := R_L) (T := F_L) (N := 10) hx hb hT i_L hown hK hP 2 rfl rfl 5 (by decide) (hT _ kw_37) (fun _ h9 => h9) rfl d_B_row_102 ?_
                refine lv_iload_n hx hb d_B_row_105 rfl (lv_at hl 1 rfl) ?_
                refine va_iald hx hb hK hP 8 0 rfl rfl (by have hr1 := isr_t (L := L) (x1 := x1) (by rw [hg_2]; assumption); have hl1 := hL.1; exact ti_vp (by omega) (by omega)) d_B_row_106 ?_
                rw [m_B_row] at hres
                try rw [hg_2] at hres
                rw [if_neg c_5, if_neg c_11_0, if_neg c_11_1, if_neg c_11_2, if_neg c_11_3, if_neg c_11_4, if_pos c_11_5] at hres
                subst hres
                subst hQ
                exact vz_iret hx hb hr hlocks d_B_row_107 hS rfl hP
              · refine lv_tableOut (tgt := 108) hx hb d_B_row_11 (by have h0 := lv_neT c_11_0 (by decide : (0 : Int32).toInt = 0); have h1 := lv_neT c_11_1 (by decide : (1 : Int32).toInt = 1); have h2 := lv_neT c_11_2 (by decide : (2 : Int32).toInt = 2); have h3 := lv_neT c_11_3 (by decide : (3 : Int32).toInt = 3); have h4 := lv_neT c_11_4 (by decide : (4 : Int32).toInt = 4); have h5 := lv_neT c_11_5 (by decide : (5 : Int32).toInt = 5); omega) (by decide) ?_
                refine lv_iconst (v := -1) hx hb d_B_row_108 (by decide) ?_
                rw [m_B_row] at hres
                try rw [hg_2] at hres
                rw [if_neg c_5, if_neg c_11_0, if_neg c_11_1, if_neg c_11_2, if_neg c_11_3, if_neg c_11_4, if_neg c_11_5] at hres
                subst hres
                subst hQ
                exact vz_iret hx hb hr hlocks d_B_row_109 hS rfl hP
  · have z_5 : g_2.toInt = (0 : Int32).toInt := congrArg Int32.toInt c_5
    refine lv_iconst (v := -1) hx hb d_B_row_8 (by decide) ?_
    rw [m_B_row] at hres
    try rw [hg_2] at hres
    rw [if_pos c_5] at hres
    subst hres
    subst hQ
    exact vz_iret hx hb hr hlocks d_B_row_9 hS rfl hP
