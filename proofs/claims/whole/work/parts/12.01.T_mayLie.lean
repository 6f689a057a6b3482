theorem d_T_mayLie_0 : decode b_T_mayLie 0 = .ok (.aload_n 0, 1) := by decide +kernel
theorem d_T_mayLie_1 : decode b_T_mayLie 1 = .ok (.getfield 9, 3) := by decide +kernel
theorem d_T_mayLie_4 : decode b_T_mayLie 4 = .ok (.iload_n 1, 1) := by decide +kernel
theorem d_T_mayLie_5 : decode b_T_mayLie 5 = .ok (.baload, 1) := by decide +kernel
theorem d_T_mayLie_6 : decode b_T_mayLie 6 = .ok (.ifCond .eq 12, 3) := by decide +kernel
theorem d_T_mayLie_9 : decode b_T_mayLie 9 = .ok (.aload_n 0, 1) := by decide +kernel
theorem d_T_mayLie_10 : decode b_T_mayLie 10 = .ok (.getfield 9, 3) := by decide +kernel
theorem d_T_mayLie_13 : decode b_T_mayLie 13 = .ok (.iload_n 2, 1) := by decide +kernel
theorem d_T_mayLie_14 : decode b_T_mayLie 14 = .ok (.baload, 1) := by decide +kernel
theorem d_T_mayLie_15 : decode b_T_mayLie 15 = .ok (.ifCond .ne 5, 3) := by decide +kernel
theorem d_T_mayLie_18 : decode b_T_mayLie 18 = .ok (.iconst 0, 1) := by decide +kernel
theorem d_T_mayLie_19 : decode b_T_mayLie 19 = .ok (.ireturn, 1) := by decide +kernel
theorem d_T_mayLie_20 : decode b_T_mayLie 20 = .ok (.aload_n 0, 1) := by decide +kernel
theorem d_T_mayLie_21 : decode b_T_mayLie 21 = .ok (.iload_n 2, 1) := by decide +kernel
theorem d_T_mayLie_22 : decode b_T_mayLie 22 = .ok (.iconst 0, 1) := by decide +kernel
theorem d_T_mayLie_23 : decode b_T_mayLie 23 = .ok (.invokevirtual 48, 3) := by decide +kernel
theorem d_T_mayLie_26 : decode b_T_mayLie 26 = .ok (.istore_n 3, 1) := by decide +kernel
theorem d_T_mayLie_27 : decode b_T_mayLie 27 = .ok (.iload_n 3, 1) := by decide +kernel
theorem d_T_mayLie_28 : decode b_T_mayLie 28 = .ok (.iconst (-1), 1) := by decide +kernel
theorem d_T_mayLie_29 : decode b_T_mayLie 29 = .ok (.if_icmp .eq 13, 3) := by decide +kernel
theorem d_T_mayLie_32 : decode b_T_mayLie 32 = .ok (.aload_n 0, 1) := by decide +kernel
theorem d_T_mayLie_33 : decode b_T_mayLie 33 = .ok (.iload_n 2, 1) := by decide +kernel
theorem d_T_mayLie_34 : decode b_T_mayLie 34 = .ok (.iload_n 1, 1) := by decide +kernel
theorem d_T_mayLie_35 : decode b_T_mayLie 35 = .ok (.invokevirtual 48, 3) := by decide +kernel
theorem d_T_mayLie_38 : decode b_T_mayLie 38 = .ok (.iconst (-1), 1) := by decide +kernel
theorem d_T_mayLie_39 : decode b_T_mayLie 39 = .ok (.if_icmp .eq 5, 3) := by decide +kernel
theorem d_T_mayLie_42 : decode b_T_mayLie 42 = .ok (.iconst 0, 1) := by decide +kernel
theorem d_T_mayLie_43 : decode b_T_mayLie 43 = .ok (.ireturn, 1) := by decide +kernel
theorem d_T_mayLie_44 : decode b_T_mayLie 44 = .ok (.iconst 0, 1) := by decide +kernel
theorem d_T_mayLie_45 : decode b_T_mayLie 45 = .ok (.istore 4, 2) := by decide +kernel
theorem d_T_mayLie_47 : decode b_T_mayLie 47 = .ok (.iload 4, 2) := by decide +kernel
theorem d_T_mayLie_49 : decode b_T_mayLie 49 = .ok (.aload_n 0, 1) := by decide +kernel
theorem d_T_mayLie_50 : decode b_T_mayLie 50 = .ok (.getfield 28, 3) := by decide +kernel
theorem d_T_mayLie_53 : decode b_T_mayLie 53 = .ok (.if_icmp .ge 42, 3) := by decide +kernel
theorem d_T_mayLie_56 : decode b_T_mayLie 56 = .ok (.aload_n 0, 1) := by decide +kernel
theorem d_T_mayLie_57 : decode b_T_mayLie 57 = .ok (.aload_n 0, 1) := by decide +kernel
theorem d_T_mayLie_58 : decode b_T_mayLie 58 = .ok (.getfield 22, 3) := by decide +kernel
theorem d_T_mayLie_61 : decode b_T_mayLie 61 = .ok (.iload 4, 2) := by decide +kernel
theorem d_T_mayLie_63 : decode b_T_mayLie 63 = .ok (.iaload, 1) := by decide +kernel
theorem d_T_mayLie_64 : decode b_T_mayLie 64 = .ok (.iload_n 1, 1) := by decide +kernel
theorem d_T_mayLie_65 : decode b_T_mayLie 65 = .ok (.invokevirtual 48, 3) := by decide +kernel
theorem d_T_mayLie_68 : decode b_T_mayLie 68 = .ok (.istore 5, 2) := by decide +kernel
theorem d_T_mayLie_70 : decode b_T_mayLie 70 = .ok (.iload 5, 2) := by decide +kernel
theorem d_T_mayLie_72 : decode b_T_mayLie 72 = .ok (.iconst (-1), 1) := by decide +kernel
theorem d_T_mayLie_73 : decode b_T_mayLie 73 = .ok (.if_icmp .eq 16, 3) := by decide +kernel
theorem d_T_mayLie_76 : decode b_T_mayLie 76 = .ok (.iload_n 3, 1) := by decide +kernel
theorem d_T_mayLie_77 : decode b_T_mayLie 77 = .ok (.iconst 1, 1) := by decide +kernel
theorem d_T_mayLie_78 : decode b_T_mayLie 78 = .ok (.iadd, 1) := by decide +kernel
theorem d_T_mayLie_79 : decode b_T_mayLie 79 = .ok (.iload 5, 2) := by decide +kernel
theorem d_T_mayLie_81 : decode b_T_mayLie 81 = .ok (.iadd, 1) := by decide +kernel
theorem d_T_mayLie_82 : decode b_T_mayLie 82 = .ok (.bipush 8, 2) := by decide +kernel
theorem d_T_mayLie_84 : decode b_T_mayLie 84 = .ok (.if_icmp .le 5, 3) := by decide +kernel
theorem d_T_mayLie_87 : decode b_T_mayLie 87 = .ok (.iconst 0, 1) := by decide +kernel
theorem d_T_mayLie_88 : decode b_T_mayLie 88 = .ok (.ireturn, 1) := by decide +kernel
theorem d_T_mayLie_89 : decode b_T_mayLie 89 = .ok (.iinc 4 1, 3) := by decide +kernel
theorem d_T_mayLie_92 : decode b_T_mayLie 92 = .ok (.goto (-45), 3) := by decide +kernel
theorem d_T_mayLie_95 : decode b_T_mayLie 95 = .ok (.iconst 1, 1) := by decide +kernel
theorem d_T_mayLie_96 : decode b_T_mayLie 96 = .ok (.ireturn, 1) := by decide +kernel
theorem hC_T_mayLie_65 (cI cZ cQ : ClassId) (q0 q1 q2 q3 q4 : Nat) (S0 : cT) : ([0, 1, 2, 3, 4] : List Nat).map (fun i => (wT cI cZ q0 q1 q2 q3 q4 S0 : va_W)[i]?) = (wT cI cZ q0 q1 q2 q3 q4 S0 : va_W).map some := rfl
theorem hF_T_stepsUp (cI cZ cQ : ClassId) {h0 a1 a2 a3 a4 : Nat} (S0 R0 : cT) : (wT cI cZ h0 a1 a2 a3 a4 R0 : va_W).map Prod.fst = (wT cI cZ h0 a1 a2 a3 a4 S0 : va_W).map Prod.fst := rfl
theorem hU_T_mayLie_65 (cI cZ cQ : ClassId) (q0 q1 q2 q3 q4 : Nat) (S0 : cT)  : vz_put (wT cI cZ q0 q1 q2 q3 q4 S0 : va_W) [0, 1, 2, 3, 4] (wT cI cZ q0 q1 q2 q3 q4 S0 : va_W) = wT cI cZ q0 q1 q2 q3 q4 S0 := (show vz_put ([(q0, .inr (0, [.ref q1, .ref q2, .ref q3, .ref q4, .int S0.2.2.2.2])), (q1, .inl (cZ, 40, .inl S0.1)), (q2, .inl (cI, 40, .inl S0.2.1)), (q3, .inl (cI, 40, .inl S0.2.2.1)), (q4, .inl (cI, 40, .inl S0.2.2.2.1))] : va_W) [0, 1, 2, 3, 4] ([(q0, .inr (0, [.ref q1, .ref q2, .ref q3, .ref q4, .int S0.2.2.2.2])), (q1, .inl (cZ, 40, .inl S0.1)), (q2, .inl (cI, 40, .inl S0.2.1)), (q3, .inl (cI, 40, .inl S0.2.2.1)), (q4, .inl (cI, 40, .inl S0.2.2.2.1))] : va_W) = [(q0, .inr (0, [.ref q1, .ref q2, .ref q3, .ref q4, .int S0.2.2.2.2])), (q1, .inl (cZ, 40, .inl S0.1)), (q2, .inl (cI, 40, .inl S0.2.1)), (q3, .inl (cI, 40, .inl S0.2.2.1)), (q4, .inl (cI, 40, .inl S0.2.2.2.1))] from rfl).trans rfl
theorem hC_T_mayLie_23 (cI cZ cQ : ClassId) (q0 q1 q2 q3 q4 : Nat) (S0 : cT) : ([0, 1, 2, 3, 4] : List Nat).map (fun i => (wT cI cZ q0 q1 q2 q3 q4 S0 : va_W)[i]?) = (wT cI cZ q0 q1 q2 q3 q4 S0 : va_W).map some := rfl
theorem hU_T_mayLie_23 (cI cZ cQ : ClassId) (q0 q1 q2 q3 q4 : Nat) (S0 : cT)  : vz_put (wT cI cZ q0 q1 q2 q3 q4 S0 : va_W) [0, 1, 2, 3, 4] (wT cI cZ q0 q1 q2 q3 q4 S0 : va_W) = wT cI cZ q0 q1 q2 q3 q4 S0 := (show vz_put ([(q0, .inr (0, [.ref q1, .ref q2, .ref q3, .ref q4, .int S0.2.2.2.2])), (q1, .inl (cZ, 40, .inl S0.1)), (q2, .inl (cI, 40, .inl S0.2.1)), (q3, .inl (cI, 40, .inl S0.2.2.1)), (q4, .inl (cI, 40, .inl S0.2.2.2.1))] : va_W) [0, 1, 2, 3, 4] ([(q0, .inr (0, [.ref q1, .ref q2, .ref q3, .ref q4, .int S0.2.2.2.2])), (q1, .inl (cZ, 40, .inl S0.1)), (q2, .inl (cI, 40, .inl S0.2.1)), (q3, .inl (cI, 40, .inl S0.2.2.1)), (q4, .inl (cI, 40, .inl S0.2.2.2.1))] : va_W) = [(q0, .inr (0, [.ref q1, .ref q2, .ref q3, .ref q4, .int S0.2.2.2.2])), (q1, .inl (cZ, 40, .inl S0.1)), (q2, .inl (cI, 40, .inl S0.2.1)), (q3, .inl (cI, 40, .inl S0.2.2.1)), (q4, .inl (cI, 40, .inl S0.2.2.2.1))] from rfl).trans rfl
theorem hC_T_mayLie_35 (cI cZ cQ : ClassId) (q0 q1 q2 q3 q4 : Nat) (S0 : cT) : ([0, 1, 2, 3, 4] : List Nat).map (fun i => (wT cI cZ q0 q1 q2 q3 q4 S0 : va_W)[i]?) = (wT cI cZ q0 q1 q2 q3 q4 S0 : va_W).map some := rfl
theorem hU_T_mayLie_35 (cI cZ cQ : ClassId) (q0 q1 q2 q3 q4 : Nat) (S0 : cT)  : vz_put (wT cI cZ q0 q1 q2 q3 q4 S0 : va_W) [0, 1, 2, 3, 4] (wT cI cZ q0 q1 q2 q3 q4 S0 : va_W) = wT cI cZ q0 q1 q2 q3 q4 S0 := (show vz_put ([(q0, .inr (0, [.ref q1, .ref q2, .ref q3, .ref q4, .int S0.2.2.2.2])), (q1, .inl (cZ, 40, .inl S0.1)), (q2, .inl (cI, 40, .inl S0.2.1)), (q3, .inl (cI, 40, .inl S0.2.2.1)), (q4, .inl (cI, 40, .inl S0.2.2.2.1))] : va_W) [0, 1, 2, 3, 4] ([(q0, .inr (0, [.ref q1, .ref q2, .ref q3, .ref q4, .int S0.2.2.2.2])), (q1, .inl (cZ, 40, .inl S0.1)), (q2, .inl (cI, 40, .inl S0.2.1)), (q3, .inl (cI, 40, .inl S0.2.2.1)), (q4, .inl (cI, 40, .inl S0.2.2.2.1))] : va_W) = [(q0, .inr (0, [.ref q1, .ref q2, .ref q3, .ref q4, .int S0.2.2.2.2])), (q1, .inl (cZ, 40, .inl S0.1)), (q2, .inl (cI, 40, .inl S0.2.1)), (q3, .inl (cI, 40, .inl S0.2.2.1)), (q4, .inl (cI, 40, .inl S0.2.2.2.1))] from rfl).trans rfl
def l_T_mayLie_47 (T : cT) (x1 : Int32) : Nat → Int32 → Int32 → Int32
  | 0, _, _ => 0
  | n + 1, x3, x4 => (if T.2.2.2.2 ≤ x4 then 1 else (if (m_T_stepsUp T (T.2.2.2.1 x4.toNatClampNeg) x1) = (-1) then (l_T_mayLie_47 T x1 n x3 (x4 + 1)) else (if ((x3 + 1) + (m_T_stepsUp T (T.2.2.2.1 x4.toNatClampNeg) x1)) ≤ 8 then (l_T_mayLie_47 T x1 n x3 (x4 + 1)) else 0)))
def m_T_mayLie (T : cT) (x1 : Int32) (x2 : Int32) : Int32 := (if (T.1 x1.toNatClampNeg) = 0 then 0 else (if (T.1 x2.toNatClampNeg) = 0 then 0 else (if (m_T_stepsUp T x2 0) = (-1) then 0 else (if (m_T_stepsUp T x2 x1) = (-1) then (l_T_mayLie_47 T x1 41 (m_T_stepsUp T x2 0) 0) else 0))))
set_option maxHeartbeats 1000000 in
set_option maxRecDepth 100000 in
theorem c_T_mayLie (l : Launch) (dC : Nat → ClassId) (dI : Nat → Nat → Nat) (cI cZ cQ : ClassId) (h0 : Nat) (a1 : Nat) (a2 : Nat) (a3 : Nat) (a4 : Nat) (T : cT) (x1 : Int32) (x2 : Int32) (hok : okT T) (h1 : 0 ≤ x1.toInt ∧ x1.toInt < 40) (h2 : 0 ≤ x2.toInt ∧ x2.toInt < 40) : vz_C l (dC, dI) classes [(cI, .int), (cZ, .boolean), (cQ, .object "BinTrees$Person")] y_T_mayLie (Cond.code y_T_mayLie b_T_mayLie 6 (some .boolean) :: vz_tbl) ({ frames := 1, cells := 0, slots := 0, locals := 24 }) [.ref h0, .int x1, .int x2] (wT cI cZ h0 a1 a2 a3 a4 T) (some (.int (m_T_mayLie T x1 x2))) (wT cI cZ h0 a1 a2 a3 a4 T) := by
  generalize hres : (m_T_mayLie T x1 x2) = RES
  refine vz_C.of (by decide) (Nat.le_of_ble_eq_true rfl) ?_
  intro p e s m below meth c ls E hl hK hP hD hS
  obtain ⟨hx, hb, hr, hml, hown, hT, hlocks⟩ := E
  obtain ⟨Q, hQ⟩ : ∃ Q, Q = MQ below (vz_Q (dC, dI) classes (wT cI cZ h0 a1 a2 a3 a4 T) (some (.int RES)) (wT cI cZ h0 a1 a2 a3 a4 T)) ([.ref h0, .int x1, .int x2] : List Value).toArray s 0 0 (vz_A (wT cI cZ h0 a1 a2 a3 a4 T)) := ⟨_, rfl⟩
  rw [← hQ]
  have hl : lv_has ls 6 [(0, .ref h0), (1, .int x1), (2, .int x2)] := hl
  have T0 := ti_0
  have T1 := ti_1
  have Tm := ti_m1
  have T8 := ti_8
  have T39 := ti_39
  have T40 := ti_40
  have T4 := ti_4
  have T300 := ti_300
  have hsz := hok.2.2.1
  have k_47 : ∀ (n : Nat) (x3 : Int32) (x4 : Int32), l_T_mayLie_47 T x1 n x3 x4 = RES → (0 ≤ x4.toInt ∧ x4.toInt ≤ T.2.2.2.2.toInt ∧ T.2.2.2.2.toInt < n + x4.toInt) → ∀ (H : Heap) (locs : List Loc) (ls : Array Slot), va_P (dC, dI) classes (wT cI cZ h0 a1 a2 a3 a4 T) H → va_D (vz_A (wT cI cZ h0 a1 a2 a3 a4 T)) (wT cI cZ h0 a1 a2 a3 a4 T) → va_S (vz_A (wT cI cZ h0 a1 a2 a3 a4 T)) s.heap H locs → lv_has ls 6 [(0, .ref h0), (1, .int x1), (3, .int x3), (4, .int x4)] → W p l e ({ frames := 1, cells := 0, slots := 0, locals := 24 }) s m ([.ref h0, .int x1, .int x2] : List Value).toArray below meth c H locs 0 0 Q (F0 m 47 ls []) := by
    intro n
    induction n with
    | zero =>
      intro x3 x4 hres i3 H locs ls hP hD hS hl
      exfalso
      omega
    | succ n ih =>
      intro x3 x4 hres i3 H locs ls hP hD hS hl
      refine lv_iload hx hb d_T_mayLie_47 (lv_at hl 3 rfl) ?_
      refine lv_aload_n hx hb d_T_mayLie_49 rfl (lv_at hl 0 rfl) ?_
      refine va_get (D := (dC, dI)) (ci := 0) (v := .int T.2.2.2.2) (C := R_T) (T := F_T) (N := 5) hx hb hT i_T hown hK hP 0 rfl rfl 4 (by decide) (hT _ kw_93) (fun _ h9 => h9) rfl d_T_mayLie_50 ?_
      refine lv_icmp_ge (tgt := 95) hx hb d_T_mayLie_53 (by decide) (fun c_53 => ?_) (fun c_53 => ?_)
      · have z_53 : T.2.2.2.2.toInt ≤ x4.toInt := Int32.le_iff_toInt_le.mp c_53
        refine lv_iconst (v := 1) hx hb d_T_mayLie_95 (by decide) ?_
        rw [l_T_mayLie_47, if_pos c_53] at hres
        subst hres
        subst hQ
        exact vz_zret hx hb hr (by decide) hlocks d_T_mayLie_96 hS rfl hP
      · have z_53 : ¬ T.2.2.2.2.toInt ≤ x4.toInt := mt Int32.le_iff_toInt_le.mpr c_53
        refine lv_aload_n hx hb d_T_mayLie_56 rfl (lv_at hl 0 rfl) ?_
        refine lv_aload_n hx hb d_T_mayLie_57 rfl (lv_at hl 0 rfl) ?_
        refine va_get (D := (dC, dI)) (ci := 0) (v := .ref a4) (C := R_T) (T := F_T) (N := 5) hx hb hT i_T hown hK hP 0 rfl rfl 3 (by decide) (hT _ kw_92) (fun _ h9 => h9) rfl d_T_mayLie_58 ?_
        refine lv_iload hx hb d_T_mayLie_61 (lv_at hl 3 rfl) ?_
        refine va_iald hx hb hK hP 4 0 rfl rfl (ti_vp (by omega) (by omega)) d_T_mayLie_63 ?_
        refine lv_iload_n hx hb d_T_mayLie_64 rfl (lv_at hl 1 rfl) ?_
        have hc := c_T_stepsUp l dC dI cI cZ cQ h0 a1 a2 a3 a4 T (T.2.2.2.1 x4.toNatClampNeg) x1 (hok.1) (by have hz := hok.2.1 _ (ti_ix (x := x4) (n := 40) (by omega) (by omega)); omega)
        generalize hg_65 : (m_T_stepsUp T (T.2.2.2.1 x4.toNatClampNeg) x1) = g_65 at hc
        refine vz_callV (As := [.int (T.2.2.2.1 x4.toNatClampNeg), .int x1]) (rest := []) ⟨hx, hb, hml, hown, hT⟩ hc (vz_goodV kw_197 kw_198 kw_199 kw_4 kw_200) ⟨rfl, hd_T_stepsUp⟩ ⟨⟨rfl, rfl⟩, Nat.le_of_ble_eq_true rfl, Nat.le_of_ble_eq_true rfl⟩ hK hP hD hS [0, 1, 2, 3, 4] rfl (hC_T_mayLie_65 cI cZ cQ h0 a1 a2 a3 a4 T) (hF_T_stepsUp cI cZ cQ _ _) 0 0 rfl rfl rfl rfl hl.1 rfl (Nat.le_of_ble_eq_true rfl) ⟨Nat.zero_le _, Nat.zero_le _⟩ d_T_mayLie_65 (fun H locs hP hD hS => ?_)
        have hP : va_P (dC, dI) classes (wT cI cZ h0 a1 a2 a3 a4 T) H := vz_reP (hU_T_mayLie_65 cI cZ cQ h0 a1 a2 a3 a4 T ) hP
        have hD : va_D (vz_A (wT cI cZ h0 a1 a2 a3 a4 T)) (wT cI cZ h0 a1 a2 a3 a4 T) := vz_reD (hU_T_mayLie_65 cI cZ cQ h0 a1 a2 a3 a4 T ) hD
        refine W.eq (g2 := F0 m 68 ls [.int g_65]) rfl ?_
        refine lv_istore (lv' := [(5, .int g_65), (0, .ref h0), (1, .int x1), (3, .int x3), (4, .int x4)]) hx hb d_T_mayLie_68 hl (by decide) rfl (fun ls hl => ?_)
        refine lv_iload hx hb d_T_mayLie_70 (lv_at hl 0 rfl) ?_
        refine lv_iconst (v := -1) hx hb d_T_mayLie_72 (by decide) ?_
        refine lv_icmp_eq (tgt := 89) hx hb d_T_mayLie_73 (by decide) (fun c_73 => ?_) (fun c_73 => ?_)
        · have z_73 : g_65.toInt = (-1 : Int32).toInt := congrArg Int32.toInt c_73
          refine lv_iinc (v := x4 + 1) (lv' := [(4, .int (x4 + 1)), (5, .int g_65), (0, .ref h0), (1, .int x1), (3, .int x3)]) hx hb d_T_mayLie_89 hl (k := 4) rfl rfl (by decide) rfl (fun ls hl => ?_)
          refine lv_goto (tgt := 47) hx hb d_T_mayLie_92 (by decide) ?_
          rw [l_T_mayLie_47, if_neg c_53] at hres
          try rw [hg_65] at hres
          rw [if_pos c_73] at hres
          exact ih x3 (x4 + 1)  hres (by rw [ti_inc (x := x4) (by omega)]; omega) H locs ls hP hD hS (lv_sub hl [2, 3, 4, 0] rfl)
        · have z_73 : ¬ g_65.toInt = (-1 : Int32).toInt := mt Int32.toInt_inj.mp c_73
          refine lv_iload_n hx hb d_T_mayLie_76 rfl (lv_at hl 3 rfl) ?_
          refine lv_iconst (v := 1) hx hb d_T_mayLie_77 (by decide) ?_
          refine lv_iadd hx hb d_T_mayLie_78 ?_
          refine lv_iload hx hb d_T_mayLie_79 (lv_at hl 0 rfl) ?_
          refine lv_iadd hx hb d_T_mayLie_81 ?_
          refine lv_bipush (v := 8) hx hb d_T_mayLie_82 (by decide) ?_
          refine lv_icmp_le (tgt := 89) hx hb d_T_mayLie_84 (by decide) (fun c_84 => ?_) (fun c_84 => ?_)
          · have z_84 : ((x3 + 1) + g_65).toInt ≤ (8 : Int32).toInt := Int32.le_iff_toInt_le.mp c_84
            refine lv_iinc (v := x4 + 1) (lv' := [(4, .int (x4 + 1)), (5, .int g_65), (0, .ref h0), (1, .int x1), (3, .int x3)]) hx hb d_T_mayLie_89 hl (k := 4) rfl rfl (by decide) rfl (fun ls hl => ?_)
            refine lv_goto (tgt := 47) hx hb d_T_mayLie_92 (by decide) ?_
            rw [l_T_mayLie_47, if_neg c_53] at hres
            try rw [hg_65] at hres
            rw [if_neg c_73, if_pos c_84] at hres
            exact ih x3 (x4 + 1)  hres (by rw [ti_inc (x := x4) (by omega)]; omega) H locs ls hP hD hS (lv_sub hl [2, 3, 4, 0] rfl)
          · have z_84 : ¬ ((x3 + 1) + g_65).toInt ≤ (8 : Int32).toInt := mt Int32.le_iff_toInt_le.mpr c_84
            refine lv_iconst (v := 0) hx hb d_T_mayLie_87 (by decide) ?_
            rw [l_T_mayLie_47, if_neg c_53] at hres
            try rw [hg_65] at hres
            rw [if_neg c_73, if_neg c_84] at hres
            subst hres
            subst hQ
            exact vz_zret hx hb hr (by decide) hlocks d_T_mayLie_88 hS rfl hP
  have hS0 := hS
  refine lv_aload_n hx hb d_T_mayLie_0 rfl (lv_at hl 0 rfl) ?_
  refine va_get (D := (dC, dI)) (ci := 0) (v := .ref a1) (C := R_T) (T := F_T) (N := 5) hx hb hT i_T hown hK hP 0 rfl rfl 0 (by decide) (hT _ kw_86) (fun _ h9 => h9) rfl d_T_mayLie_1 ?_
  refine lv_iload_n hx hb d_T_mayLie_4 rfl (lv_at hl 1 rfl) ?_
  refine va_zald hx hb hK hP 1 1 rfl rfl (ti_vp (by omega) (by omega)) d_T_mayLie_5 ?_
  refine lv_if_eq (tgt := 18) hx hb d_T_mayLie_6 (by decide) (fun c_6 => ?_) (fun c_6 => ?_)
  · have z_6 : (T.1 x1.toNatClampNeg).toInt = (0 : Int32).toInt := congrArg Int32.toInt c_6
    refine lv_iconst (v := 0) hx hb d_T_mayLie_18 (by decide) ?_
    rw [m_T_mayLie, if_pos c_6] at hres
    subst hres
    subst hQ
    exact vz_zret hx hb hr (by decide) hlocks d_T_mayLie_19 hS rfl hP
  · have z_6 : ¬ (T.1 x1.toNatClampNeg).toInt = (0 : Int32).toInt := mt Int32.toInt_inj.mp c_6
    refine lv_aload_n hx hb d_T_mayLie_9 rfl (lv_at hl 0 rfl) ?_
    refine va_get (D := (dC, dI)) (ci := 0) (v := .ref a1) (C := R_T) (T := F_T) (N := 5) hx hb hT i_T hown hK hP 0 rfl rfl 0 (by decide) (hT _ kw_86) (fun _ h9 => h9) rfl d_T_mayLie_10 ?_
    refine lv_iload_n hx hb d_T_mayLie_13 rfl (lv_at hl 2 rfl) ?_
    refine va_zald hx hb hK hP 1 1 rfl rfl (ti_vp (by omega) (by omega)) d_T_mayLie_14 ?_
    refine lv_if_ne (tgt := 20) hx hb d_T_mayLie_15 (by decide) (fun c_15 => ?_) (fun c_15 => ?_)
    · have z_15 : ¬ (T.1 x2.toNatClampNeg).toInt = (0 : Int32).toInt := mt Int32.toInt_inj.mp c_15
      refine lv_aload_n hx hb d_T_mayLie_20 rfl (lv_at hl 0 rfl) ?_
      refine lv_iload_n hx hb d_T_mayLie_21 rfl (lv_at hl 2 rfl) ?_
      refine lv_iconst (v := 0) hx hb d_T_mayLie_22 (by decide) ?_
      have hc := c_T_stepsUp l dC dI cI cZ cQ h0 a1 a2 a3 a4 T x2 0 (hok.1) (by omega)
      generalize hg_23 : (m_T_stepsUp T x2 0) = g_23 at hc
      refine vz_callV (As := [.int x2, .int 0]) (rest := []) ⟨hx, hb, hml, hown, hT⟩ hc (vz_goodV kw_197 kw_198 kw_199 kw_4 kw_200) ⟨rfl, hd_T_stepsUp⟩ ⟨⟨rfl, rfl⟩, Nat.le_of_ble_eq_true rfl, Nat.le_of_ble_eq_true rfl⟩ hK hP hD hS [0, 1, 2, 3, 4] rfl (hC_T_mayLie_23 cI cZ cQ h0 a1 a2 a3 a4 T) (hF_T_stepsUp cI cZ cQ _ _) 0 0 rfl rfl rfl rfl hl.1 rfl (Nat.le_of_ble_eq_true rfl) ⟨Nat.zero_le _, Nat.zero_le _⟩ d_T_mayLie_23 (fun H locs hP hD hS => ?_)
      have hP : va_P (dC, dI) classes (wT cI cZ h0 a1 a2 a3 a4 T) H := vz_reP (hU_T_mayLie_23 cI cZ cQ h0 a1 a2 a3 a4 T ) hP
      have hD : va_D (vz_A (wT cI cZ h0 a1 a2 a3 a4 T)) (wT cI cZ h0 a1 a2 a3 a4 T) := vz_reD (hU_T_mayLie_23 cI cZ cQ h0 a1 a2 a3 a4 T ) hD
      refine W.eq (g2 := F0 m 26 ls [.int g_23]) rfl ?_
      refine lv_istore_n (lv' := [(3, .int g_23), (0, .ref h0), (1, .int x1), (2, .int x2)]) hx hb d_T_mayLie_26 rfl hl (by decide) rfl (fun ls hl => ?_)
      refine lv_iload_n hx hb d_T_mayLie_27 rfl (lv_at hl 0 rfl) ?_
      refine lv_iconst (v := -1) hx hb d_T_mayLie_28 (by decide) ?_
      refine lv_icmp_eq (tgt := 42) hx hb d_T_mayLie_29 (by decide) (fun c_29 => ?_) (fun c_29 => ?_)
      · have z_29 : g_23.toInt = (-1 : Int32).toInt := congrArg Int32.toInt c_29
        refine lv_iconst (v := 0) hx hb d_T_mayLie_42 (by decide) ?_
        rw [m_T_mayLie, if_neg c_6, if_neg c_15] at hres
        try rw [hg_23] at hres
        rw [if_pos c_29] at hres
        subst hres
        subst hQ
        exact vz_zret hx hb hr (by decide) hlocks d_T_mayLie_43 hS rfl hP
      · have z_29 : ¬ g_23.toInt = (-1 : Int32).toInt := mt Int32.toInt_inj.mp c_29
        refine lv_aload_n hx hb d_T_mayLie_32 rfl (lv_at hl 1 rfl) ?_
        refine lv_iload_n hx hb d_T_mayLie_33 rfl (lv_at hl 3 rfl) ?_
        refine lv_iload_n hx hb d_T_mayLie_34 rfl (lv_at hl 2 rfl) ?_
        have hc := c_T_stepsUp l dC dI cI cZ cQ h0 a1 a2 a3 a4 T x2 x1 (hok.1) (by omega)
        generalize hg_35 : (m_T_stepsUp T x2 x1) = g_35 at hc
        refine vz_callV (As := [.int x2, .int x1]) (rest := []) ⟨hx, hb, hml, hown, hT⟩ hc (vz_goodV kw_197 kw_198 kw_199 kw_4 kw_200) ⟨rfl, hd_T_stepsUp⟩ ⟨⟨rfl, rfl⟩, Nat.le_of_ble_eq_true rfl, Nat.le_of_ble_eq_true rfl⟩ hK hP hD hS [0, 1, 2, 3, 4] rfl (hC_T_mayLie_35 cI cZ cQ h0 a1 a2 a3 a4 T) (hF_T_stepsUp cI cZ cQ _ _) 0 0 rfl rfl rfl rfl hl.1 rfl (Nat.le_of_ble_eq_true rfl) ⟨Nat.zero_le _, Nat.zero_le _⟩ d_T_mayLie_35 (fun H locs hP hD hS => ?_)
        have hP : va_P (dC, dI) classes (wT cI cZ h0 a1 a2 a3 a4 T) H := vz_reP (hU_T_mayLie_35 cI cZ cQ h0 a1 a2 a3 a4 T ) hP
        have hD : va_D (vz_A (wT cI cZ h0 a1 a2 a3 a4 T)) (wT cI cZ h0 a1 a2 a3 a4 T) := vz_reD (hU_T_mayLie_35 cI cZ cQ h0 a1 a2 a3 a4 T ) hD
        refine W.eq (g2 := F0 m 38 ls [.int g_35]) rfl ?_
        refine lv_iconst (v := -1) hx hb d_T_mayLie_38 (by decide) ?_
        refine lv_icmp_eq (tgt := 44) hx hb d_T_mayLie_39 (by decide) (fun c_39 => ?_) (fun c_39 => ?_)
        · have z_39 : g_35.toInt = (-1 : Int32).toInt := congrArg Int32.toInt c_39
          refine lv_iconst (v := 0) hx hb d_T_mayLie_44 (by decide) ?_
          refine lv_istore (lv' := [(4, .int 0), (3, .int g_23), (0, .ref h0), (1, .int x1), (2, .int x2)]) hx hb d_T_mayLie_45 hl (by decide) rfl (fun ls hl => ?_)
          rw [m_T_mayLie, if_neg c_6, if_neg c_15] at hres
          try rw [hg_23] at hres
          rw [if_neg c_29] at hres
          try rw [hg_35] at hres
          rw [if_pos c_39] at hres
          exact k_47 41 g_23 0  hres (by omega) _ _ ls hP hD hS (lv_sub hl [2, 3, 1, 0] rfl)
        · have z_39 : ¬ g_35.toInt = (-1 : Int32).toInt := mt Int32.toInt_inj.mp c_39
          refine lv_iconst (v := 0) hx hb d_T_mayLie_42 (by decide) ?_
          rw [m_T_mayLie, if_neg c_6, if_neg c_15] at hres
          try rw [hg_23] at hres
          rw [if_neg c_29] at hres
          try rw [hg_35] at hres
          rw [if_neg c_39] at hres
          subst hres
          subst hQ
          exact vz_zret hx hb hr (by decide) hlocks d_T_mayLie_43 hS rfl hP
    · have z_15 : (T.1 x2.toNatClampNeg).toInt = (0 : Int32).toInt := congrArg Int32.toInt c_15
      refine lv_iconst (v := 0) hx hb d_T_mayLie_18 (by decide) ?_
      rw [m_T_mayLie, if_neg c_6, if_pos c_15] at hres
      subst hres
      subst hQ
      exact vz_zret hx hb hr (by decide) hlocks d_T_mayLie_19 hS rfl hP
