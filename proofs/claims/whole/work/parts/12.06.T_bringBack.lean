theorem d_T_bringBack_0 : decode b_T_bringBack 0 = .ok (.aload_n 0, 1) := by decide +kernel
theorem d_T_bringBack_1 : decode b_T_bringBack 1 = .ok (.getfield 9, 3) := by decide +kernel
theorem d_T_bringBack_4 : decode b_T_bringBack 4 = .ok (.iload_n 1, 1) := by decide +kernel
theorem d_T_bringBack_5 : decode b_T_bringBack 5 = .ok (.baload, 1) := by decide +kernel
theorem d_T_bringBack_6 : decode b_T_bringBack 6 = .ok (.ifCond .eq 13, 3) := by decide +kernel
theorem d_T_bringBack_9 : decode b_T_bringBack 9 = .ok (.aload_n 0, 1) := by decide +kernel
theorem d_T_bringBack_10 : decode b_T_bringBack 10 = .ok (.getfield 15, 3) := by decide +kernel
theorem d_T_bringBack_13 : decode b_T_bringBack 13 = .ok (.iload_n 1, 1) := by decide +kernel
theorem d_T_bringBack_14 : decode b_T_bringBack 14 = .ok (.iaload, 1) := by decide +kernel
theorem d_T_bringBack_15 : decode b_T_bringBack 15 = .ok (.iconst (-1), 1) := by decide +kernel
theorem d_T_bringBack_16 : decode b_T_bringBack 16 = .ok (.if_icmp .eq 5, 3) := by decide +kernel
theorem d_T_bringBack_19 : decode b_T_bringBack 19 = .ok (.iconst 0, 1) := by decide +kernel
theorem d_T_bringBack_20 : decode b_T_bringBack 20 = .ok (.ireturn, 1) := by decide +kernel
theorem d_T_bringBack_21 : decode b_T_bringBack 21 = .ok (.aload_n 0, 1) := by decide +kernel
theorem d_T_bringBack_22 : decode b_T_bringBack 22 = .ok (.iload_n 1, 1) := by decide +kernel
theorem d_T_bringBack_23 : decode b_T_bringBack 23 = .ok (.aload_n 0, 1) := by decide +kernel
theorem d_T_bringBack_24 : decode b_T_bringBack 24 = .ok (.getfield 19, 3) := by decide +kernel
theorem d_T_bringBack_27 : decode b_T_bringBack 27 = .ok (.iload_n 1, 1) := by decide +kernel
theorem d_T_bringBack_28 : decode b_T_bringBack 28 = .ok (.iaload, 1) := by decide +kernel
theorem d_T_bringBack_29 : decode b_T_bringBack 29 = .ok (.invokevirtual 36, 3) := by decide +kernel
theorem d_T_bringBack_32 : decode b_T_bringBack 32 = .ok (.ifCond .eq 12, 3) := by decide +kernel
theorem d_T_bringBack_35 : decode b_T_bringBack 35 = .ok (.aload_n 0, 1) := by decide +kernel
theorem d_T_bringBack_36 : decode b_T_bringBack 36 = .ok (.getfield 19, 3) := by decide +kernel
theorem d_T_bringBack_39 : decode b_T_bringBack 39 = .ok (.iload_n 1, 1) := by decide +kernel
theorem d_T_bringBack_40 : decode b_T_bringBack 40 = .ok (.iaload, 1) := by decide +kernel
theorem d_T_bringBack_41 : decode b_T_bringBack 41 = .ok (.goto 4, 3) := by decide +kernel
theorem d_T_bringBack_44 : decode b_T_bringBack 44 = .ok (.iconst 0, 1) := by decide +kernel
theorem d_T_bringBack_45 : decode b_T_bringBack 45 = .ok (.istore_n 2, 1) := by decide +kernel
theorem d_T_bringBack_46 : decode b_T_bringBack 46 = .ok (.aload_n 0, 1) := by decide +kernel
theorem d_T_bringBack_47 : decode b_T_bringBack 47 = .ok (.iload_n 1, 1) := by decide +kernel
theorem d_T_bringBack_48 : decode b_T_bringBack 48 = .ok (.iload_n 2, 1) := by decide +kernel
theorem d_T_bringBack_49 : decode b_T_bringBack 49 = .ok (.invokevirtual 36, 3) := by decide +kernel
theorem d_T_bringBack_52 : decode b_T_bringBack 52 = .ok (.ifCond .ne 5, 3) := by decide +kernel
theorem d_T_bringBack_55 : decode b_T_bringBack 55 = .ok (.iconst 0, 1) := by decide +kernel
theorem d_T_bringBack_56 : decode b_T_bringBack 56 = .ok (.ireturn, 1) := by decide +kernel
theorem d_T_bringBack_57 : decode b_T_bringBack 57 = .ok (.aload_n 0, 1) := by decide +kernel
theorem d_T_bringBack_58 : decode b_T_bringBack 58 = .ok (.iload_n 1, 1) := by decide +kernel
theorem d_T_bringBack_59 : decode b_T_bringBack 59 = .ok (.invokevirtual 40, 3) := by decide +kernel
theorem d_T_bringBack_62 : decode b_T_bringBack 62 = .ok (.aload_n 0, 1) := by decide +kernel
theorem d_T_bringBack_63 : decode b_T_bringBack 63 = .ok (.aload_n 0, 1) := by decide +kernel
theorem d_T_bringBack_64 : decode b_T_bringBack 64 = .ok (.getfield 28, 3) := by decide +kernel
theorem d_T_bringBack_67 : decode b_T_bringBack 67 = .ok (.iload_n 1, 1) := by decide +kernel
theorem d_T_bringBack_68 : decode b_T_bringBack 68 = .ok (.iload_n 2, 1) := by decide +kernel
theorem d_T_bringBack_69 : decode b_T_bringBack 69 = .ok (.invokevirtual 32, 3) := by decide +kernel
theorem d_T_bringBack_72 : decode b_T_bringBack 72 = .ok (.aload_n 0, 1) := by decide +kernel
theorem d_T_bringBack_73 : decode b_T_bringBack 73 = .ok (.getfield 19, 3) := by decide +kernel
theorem d_T_bringBack_76 : decode b_T_bringBack 76 = .ok (.iload_n 1, 1) := by decide +kernel
theorem d_T_bringBack_77 : decode b_T_bringBack 77 = .ok (.iload_n 2, 1) := by decide +kernel
theorem d_T_bringBack_78 : decode b_T_bringBack 78 = .ok (.iastore, 1) := by decide +kernel
theorem d_T_bringBack_79 : decode b_T_bringBack 79 = .ok (.iconst 1, 1) := by decide +kernel
theorem d_T_bringBack_80 : decode b_T_bringBack 80 = .ok (.ireturn, 1) := by decide +kernel
theorem hC_T_bringBack_49 (cI cZ cQ : ClassId) (q0 q1 q2 q3 q4 : Nat) (S0 : cT) : ([0, 1, 2, 3, 4] : List Nat).map (fun i => (wT cI cZ q0 q1 q2 q3 q4 S0 : va_W)[i]?) = (wT cI cZ q0 q1 q2 q3 q4 S0 : va_W).map some := rfl
theorem hU_T_bringBack_49 (cI cZ cQ : ClassId) (q0 q1 q2 q3 q4 : Nat) (S0 : cT)  : vz_put (wT cI cZ q0 q1 q2 q3 q4 S0 : va_W) [0, 1, 2, 3, 4] (wT cI cZ q0 q1 q2 q3 q4 S0 : va_W) = wT cI cZ q0 q1 q2 q3 q4 S0 := (show vz_put ([(q0, .inr (0, [.ref q1, .ref q2, .ref q3, .ref q4, .int S0.2.2.2.2])), (q1, .inl (cZ, 40, .inl S0.1)), (q2, .inl (cI, 40, .inl S0.2.1)), (q3, .inl (cI, 40, .inl S0.2.2.1)), (q4, .inl (cI, 40, .inl S0.2.2.2.1))] : va_W) [0, 1, 2, 3, 4] ([(q0, .inr (0, [.ref q1, .ref q2, .ref q3, .ref q4, .int S0.2.2.2.2])), (q1, .inl (cZ, 40, .inl S0.1)), (q2, .inl (cI, 40, .inl S0.2.1)), (q3, .inl (cI, 40, .inl S0.2.2.1)), (q4, .inl (cI, 40, .inl S0.2.2.2.1))] : va_W) = [(q0, .inr (0, [.ref q1, .ref q2, .ref q3, .ref q4, .int S0.2.2.2.2])), (q1, .inl (cZ, 40, .inl S0.1)), (q2, .inl (cI, 40, .inl S0.2.1)), (q3, .inl (cI, 40, .inl S0.2.2.1)), (q4, .inl (cI, 40, .inl S0.2.2.2.1))] from rfl).trans rfl
theorem hC_T_bringBack_59 (cI cZ cQ : ClassId) (q0 q1 q2 q3 q4 : Nat) (S0 : cT) : ([0, 1, 2, 3, 4] : List Nat).map (fun i => (wT cI cZ q0 q1 q2 q3 q4 S0 : va_W)[i]?) = (wT cI cZ q0 q1 q2 q3 q4 S0 : va_W).map some := rfl
theorem hU_T_bringBack_59 (cI cZ cQ : ClassId) (q0 q1 q2 q3 q4 : Nat) (S0 : cT) (R0 : cT) : vz_put (wT cI cZ q0 q1 q2 q3 q4 S0 : va_W) [0, 1, 2, 3, 4] (wT cI cZ q0 q1 q2 q3 q4 R0 : va_W) = wT cI cZ q0 q1 q2 q3 q4 R0 := (show vz_put ([(q0, .inr (0, [.ref q1, .ref q2, .ref q3, .ref q4, .int S0.2.2.2.2])), (q1, .inl (cZ, 40, .inl S0.1)), (q2, .inl (cI, 40, .inl S0.2.1)), (q3, .inl (cI, 40, .inl S0.2.2.1)), (q4, .inl (cI, 40, .inl S0.2.2.2.1))] : va_W) [0, 1, 2, 3, 4] ([(q0, .inr (0, [.ref q1, .ref q2, .ref q3, .ref q4, .int R0.2.2.2.2])), (q1, .inl (cZ, 40, .inl R0.1)), (q2, .inl (cI, 40, .inl R0.2.1)), (q3, .inl (cI, 40, .inl R0.2.2.1)), (q4, .inl (cI, 40, .inl R0.2.2.2.1))] : va_W) = [(q0, .inr (0, [.ref q1, .ref q2, .ref q3, .ref q4, .int R0.2.2.2.2])), (q1, .inl (cZ, 40, .inl R0.1)), (q2, .inl (cI, 40, .inl R0.2.1)), (q3, .inl (cI, 40, .inl R0.2.2.1)), (q4, .inl (cI, 40, .inl R0.2.2.2.1))] from rfl).trans rfl
theorem hC_T_bringBack_69 (cI cZ cQ : ClassId) (q0 q1 q2 q3 q4 : Nat) (S0 : cT) : ([0, 1, 2, 3, 4] : List Nat).map (fun i => (wT cI cZ q0 q1 q2 q3 q4 S0 : va_W)[i]?) = (wT cI cZ q0 q1 q2 q3 q4 S0 : va_W).map some := rfl
theorem hU_T_bringBack_69 (cI cZ cQ : ClassId) (q0 q1 q2 q3 q4 : Nat) (S0 : cT) (R0 : cT) : vz_put (wT cI cZ q0 q1 q2 q3 q4 S0 : va_W) [0, 1, 2, 3, 4] (wT cI cZ q0 q1 q2 q3 q4 R0 : va_W) = wT cI cZ q0 q1 q2 q3 q4 R0 := (show vz_put ([(q0, .inr (0, [.ref q1, .ref q2, .ref q3, .ref q4, .int S0.2.2.2.2])), (q1, .inl (cZ, 40, .inl S0.1)), (q2, .inl (cI, 40, .inl S0.2.1)), (q3, .inl (cI, 40, .inl S0.2.2.1)), (q4, .inl (cI, 40, .inl S0.2.2.2.1))] : va_W) [0, 1, 2, 3, 4] ([(q0, .inr (0, [.ref q1, .ref q2, .ref q3, .ref q4, .int R0.2.2.2.2])), (q1, .inl (cZ, 40, .inl R0.1)), (q2, .inl (cI, 40, .inl R0.2.1)), (q3, .inl (cI, 40, .inl R0.2.2.1)), (q4, .inl (cI, 40, .inl R0.2.2.2.1))] : va_W) = [(q0, .inr (0, [.ref q1, .ref q2, .ref q3, .ref q4, .int R0.2.2.2.2])), (q1, .inl (cZ, 40, .inl R0.1)), (q2, .inl (cI, 40, .inl R0.2.1)), (q3, .inl (cI, 40, .inl R0.2.2.1)), (q4, .inl (cI, 40, .inl R0.2.2.2.1))] from rfl).trans rfl
theorem hW_T_bringBack_78 (cI cZ cQ : ClassId) (q0 q1 q2 q3 q4 : Nat) (S0 : cT) (v : cA) : (wT cI cZ q0 q1 q2 q3 q4 S0 : va_W).set 3 (q3, .inl (cI, 40, .inl v)) = wT cI cZ q0 q1 q2 q3 q4 (S0.1, S0.2.1, v, S0.2.2.2.1, S0.2.2.2.2) := rfl
theorem hC_T_bringBack_29 (cI cZ cQ : ClassId) (q0 q1 q2 q3 q4 : Nat) (S0 : cT) : ([0, 1, 2, 3, 4] : List Nat).map (fun i => (wT cI cZ q0 q1 q2 q3 q4 S0 : va_W)[i]?) = (wT cI cZ q0 q1 q2 q3 q4 S0 : va_W).map some := rfl
theorem hU_T_bringBack_29 (cI cZ cQ : ClassId) (q0 q1 q2 q3 q4 : Nat) (S0 : cT)  : vz_put (wT cI cZ q0 q1 q2 q3 q4 S0 : va_W) [0, 1, 2, 3, 4] (wT cI cZ q0 q1 q2 q3 q4 S0 : va_W) = wT cI cZ q0 q1 q2 q3 q4 S0 := (show vz_put ([(q0, .inr (0, [.ref q1, .ref q2, .ref q3, .ref q4, .int S0.2.2.2.2])), (q1, .inl (cZ, 40, .inl S0.1)), (q2, .inl (cI, 40, .inl S0.2.1)), (q3, .inl (cI, 40, .inl S0.2.2.1)), (q4, .inl (cI, 40, .inl S0.2.2.2.1))] : va_W) [0, 1, 2, 3, 4] ([(q0, .inr (0, [.ref q1, .ref q2, .ref q3, .ref q4, .int S0.2.2.2.2])), (q1, .inl (cZ, 40, .inl S0.1)), (q2, .inl (cI, 40, .inl S0.2.1)), (q3, .inl (cI, 40, .inl S0.2.2.1)), (q4, .inl (cI, 40, .inl S0.2.2.2.1))] : va_W) = [(q0, .inr (0, [.ref q1, .ref q2, .ref q3, .ref q4, .int S0.2.2.2.2])), (q1, .inl (cZ, 40, .inl S0.1)), (q2, .inl (cI, 40, .inl S0.2.1)), (q3, .inl (cI, 40, .inl S0.2.2.1)), (q4, .inl (cI, 40, .inl S0.2.2.2.1))] from rfl).trans rfl
def l_T_bringBack_45 (T : cT) (x1 : Int32) (y : Int32) : Int32 × cT := (if (m_T_mayLie T x1 y) = 0 then (0, T) else (1, ((m_T_putAt (m_T_takeOut T x1) (m_T_takeOut T x1).2.2.2.2 x1 y).1, (m_T_putAt (m_T_takeOut T x1) (m_T_takeOut T x1).2.2.2.2 x1 y).2.1, upd (m_T_putAt (m_T_takeOut T x1) (m_T_takeOut T x1).2.2.2.2 x1 y).2.2.1 x1.toNatClampNeg y, (m_T_putAt (m_T_takeOut T x1) (m_T_takeOut T x1).2.2.2.2 x1 y).2.2.2.1, (m_T_putAt (m_T_takeOut T x1) (m_T_takeOut T x1).2.2.2.2 x1 y).2.2.2.2)))
def m_T_bringBack (T : cT) (x1 : Int32) : Int32 × cT := (if (T.1 x1.toNatClampNeg) = 0 then (0, T) else (if (T.2.1 x1.toNatClampNeg) = (-1) then (if (m_T_mayLie T x1 (T.2.2.1 x1.toNatClampNeg)) = 0 then (l_T_bringBack_45 T x1 0) else (l_T_bringBack_45 T x1 (T.2.2.1 x1.toNatClampNeg))) else (0, T)))
set_option maxHeartbeats 1000000 in
set_option maxRecDepth 100000 in
theorem c_T_bringBack (l : Launch) (dC : Nat → ClassId) (dI : Nat → Nat → Nat) (cI cZ cQ : ClassId) (h0 : Nat) (a1 : Nat) (a2 : Nat) (a3 : Nat) (a4 : Nat) (T : cT) (x1 : Int32) (hok : okT T) (h1 : 1 ≤ x1.toInt ∧ x1.toInt < 40) : vz_C l (dC, dI) classes [(cI, .int), (cZ, .boolean), (cQ, .object "BinTrees$Person")] y_T_bringBack (Cond.code y_T_bringBack b_T_bringBack 3 (some .boolean) :: vz_tbl) ({ frames := 2, cells := 0, slots := 0, locals := 49 }) [.ref h0, .int x1] (wT cI cZ h0 a1 a2 a3 a4 T) (some (.int ((m_T_bringBack T x1).1))) (wT cI cZ h0 a1 a2 a3 a4 ((m_T_bringBack T x1).2)) := by
  generalize hres : (m_T_bringBack T x1) = RES
  refine vz_C.of (by decide) (Nat.le_of_ble_eq_true rfl) ?_
  intro p e s m below meth c ls E hl hK hP hD hS
  obtain ⟨hx, hb, hr, hml, hown, hT, hlocks⟩ := E
  obtain ⟨Q, hQ⟩ : ∃ Q, Q = MQ below (vz_Q (dC, dI) classes (wT cI cZ h0 a1 a2 a3 a4 T) (some (.int RES.1)) (wT cI cZ h0 a1 a2 a3 a4 RES.2)) ([.ref h0, .int x1] : List Value).toArray s 0 0 (vz_A (wT cI cZ h0 a1 a2 a3 a4 T)) := ⟨_, rfl⟩
  rw [← hQ]
  have hl : lv_has ls 3 [(0, .ref h0), (1, .int x1)] := hl
  have T0 := ti_0
  have T1 := ti_1
  have Tm := ti_m1
  have T8 := ti_8
  have T39 := ti_39
  have T40 := ti_40
  have T4 := ti_4
  have T300 := ti_300
  have hw := hok.2.2.2.2 x1.toNatClampNeg (by have : x1.toNatClampNeg = x1.toInt.toNat := rfl; omega) (ti_ix (by omega) (by omega))
  have k_45 : ∀  (y : Int32), l_T_bringBack_45 T x1  y = RES → (0 ≤ y.toInt ∧ y.toInt < 40) → ∀ (H : Heap) (locs : List Loc) (ls : Array Slot), va_P (dC, dI) classes (wT cI cZ h0 a1 a2 a3 a4 T) H → va_D (vz_A (wT cI cZ h0 a1 a2 a3 a4 T)) (wT cI cZ h0 a1 a2 a3 a4 T) → va_S (vz_A (wT cI cZ h0 a1 a2 a3 a4 T)) s.heap H locs → lv_has ls 3 [(0, .ref h0), (1, .int x1)] → W p l e ({ frames := 2, cells := 0, slots := 0, locals := 49 }) s m ([.ref h0, .int x1] : List Value).toArray below meth c H locs 0 0 Q (F0 m 45 ls [.int y]) := by
    intro y hres hy H locs ls hP hD hS hl
    refine lv_istore_n (lv' := [(2, .int y), (0, .ref h0), (1, .int x1)]) hx hb d_T_bringBack_45 rfl hl (by decide) rfl (fun ls hl => ?_)
    refine lv_aload_n hx hb d_T_bringBack_46 rfl (lv_at hl 1 rfl) ?_
    refine lv_iload_n hx hb d_T_bringBack_47 rfl (lv_at hl 2 rfl) ?_
    refine lv_iload_n hx hb d_T_bringBack_48 rfl (lv_at hl 0 rfl) ?_
    have hc := c_T_mayLie l dC dI cI cZ cQ h0 a1 a2 a3 a4 T x1 y (hok) (by omega) (hy)
    generalize hg_49 : (m_T_mayLie T x1 y) = g_49 at hc
    refine vz_callV (As := [.int x1, .int y]) (rest := []) ⟨hx, hb, hml, hown, hT⟩ hc (vz_goodV kw_193 kw_195 ks_6 kw_4 kw_196) ⟨rfl, hd_T_mayLie⟩ ⟨⟨rfl, rfl⟩, Nat.le_of_ble_eq_true rfl, Nat.le_of_ble_eq_true rfl⟩ hK hP hD hS [0, 1, 2, 3, 4] rfl (hC_T_bringBack_49 cI cZ cQ h0 a1 a2 a3 a4 T) (hF_T_mayLie cI cZ cQ _ _) 0 0 rfl rfl rfl rfl hl.1 rfl (Nat.le_of_ble_eq_true rfl) ⟨Nat.zero_le _, Nat.zero_le _⟩ d_T_bringBack_49 (fun H locs hP hD hS => ?_)
    have hP : va_P (dC, dI) classes (wT cI cZ h0 a1 a2 a3 a4 T) H := vz_reP (hU_T_bringBack_49 cI cZ cQ h0 a1 a2 a3 a4 T ) hP
    have hD : va_D (vz_A (wT cI cZ h0 a1 a2 a3 a4 T)) (wT cI cZ h0 a1 a2 a3 a4 T) := vz_reD (hU_T_bringBack_49 cI cZ cQ h0 a1 a2 a3 a4 T ) hD
    refine W.eq (g2 := F0 m 52 ls [.int g_49]) rfl ?_
    refine lv_if_ne (tgt := 57) hx hb d_T_bringBack_52 (by decide) (fun c_52 => ?_) (fun c_52 => ?_)
    · have z_52 : ¬ g_49.toInt = (0 : Int32).toInt := mt Int32.toInt_inj.mp c_52
      refine lv_aload_n hx hb d_T_bringBack_57 rfl (lv_at hl 1 rfl) ?_
      refine lv_iload_n hx hb d_T_bringBack_58 rfl (lv_at hl 2 rfl) ?_
      have hc := c_T_takeOut l dC dI cI cZ cQ h0 a1 a2 a3 a4 T x1 (ok_le hok)
      generalize hg_59 : (m_T_takeOut T x1) = g_59 at hc
      refine vz_callV (As := [.int x1]) (rest := []) ⟨hx, hb, hml, hown, hT⟩ hc (vz_goodV kw_201 kw_203 ks_7 kw_4 kw_204) ⟨rfl, hd_T_takeOut⟩ ⟨⟨rfl, rfl⟩, Nat.le_of_ble_eq_true rfl, Nat.le_of_ble_eq_true rfl⟩ hK hP hD hS [0, 1, 2, 3, 4] rfl (hC_T_bringBack_59 cI cZ cQ h0 a1 a2 a3 a4 T) (hF_T_takeOut cI cZ cQ _ _) 0 0 rfl rfl rfl rfl hl.1 rfl (Nat.le_of_ble_eq_true rfl) ⟨Nat.zero_le _, Nat.zero_le _⟩ d_T_bringBack_59 (fun H locs hP hD hS => ?_)
      have hP : va_P (dC, dI) classes (wT cI cZ h0 a1 a2 a3 a4 g_59) H := vz_reP (hU_T_bringBack_59 cI cZ cQ h0 a1 a2 a3 a4 T g_59) hP
      have hD : va_D (vz_A (wT cI cZ h0 a1 a2 a3 a4 T)) (wT cI cZ h0 a1 a2 a3 a4 g_59) := vz_reD (hU_T_bringBack_59 cI cZ cQ h0 a1 a2 a3 a4 T g_59) hD
      have ok1 : okT g_59 := by rw [← hg_59]; exact to_ok' hok
      refine W.eq (g2 := F0 m 62 ls []) rfl ?_
      refine lv_aload_n hx hb d_T_bringBack_62 rfl (lv_at hl 1 rfl) ?_
      refine lv_aload_n hx hb d_T_bringBack_63 rfl (lv_at hl 1 rfl) ?_
      refine va_get (D := (dC, dI)) (ci := 0) (v := .int g_59.2.2.2.2) (C := R_T) (T := F_T) (N := 5) hx hb hT i_T hown hK hP 0 rfl rfl 4 (by decide) (hT _ kw_93) (fun _ h9 => h9) rfl d_T_bringBack_64 ?_
      refine lv_iload_n hx hb d_T_bringBack_67 rfl (lv_at hl 2 rfl) ?_
      refine lv_iload_n hx hb d_T_bringBack_68 rfl (lv_at hl 0 rfl) ?_
      have hc := c_T_putAt l dC dI cI cZ cQ h0 a1 a2 a3 a4 g_59 g_59.2.2.2.2 x1 y (ok_lt ok1) (by have := ok1.2.2.1; omega) (by omega)
      generalize hg_69 : (m_T_putAt g_59 g_59.2.2.2.2 x1 y) = g_69 at hc
      refine vz_callV (As := [.int g_59.2.2.2.2, .int x1, .int y]) (rest := []) ⟨hx, hb, hml, hown, hT⟩ hc (vz_goodV kw_185 kw_187 ks_5 kw_4 kw_188) ⟨rfl, hd_T_putAt⟩ ⟨⟨rfl, rfl⟩, Nat.le_of_ble_eq_true rfl, Nat.le_of_ble_eq_true rfl⟩ hK hP hD hS [0, 1, 2, 3, 4] rfl (hC_T_bringBack_69 cI cZ cQ h0 a1 a2 a3 a4 g_59) (hF_T_putAt cI cZ cQ _ _) 0 0 rfl rfl rfl rfl hl.1 rfl (Nat.le_of_ble_eq_true rfl) ⟨Nat.zero_le _, Nat.zero_le _⟩ d_T_bringBack_69 (fun H locs hP hD hS => ?_)
      have hP : va_P (dC, dI) classes (wT cI cZ h0 a1 a2 a3 a4 g_69) H := vz_reP (hU_T_bringBack_69 cI cZ cQ h0 a1 a2 a3 a4 g_59 g_69) hP
      have hD : va_D (vz_A (wT cI cZ h0 a1 a2 a3 a4 T)) (wT cI cZ h0 a1 a2 a3 a4 g_69) := vz_reD (hU_T_bringBack_69 cI cZ cQ h0 a1 a2 a3 a4 g_59 g_69) hD
      refine W.eq (g2 := F0 m 72 ls []) rfl ?_
      refine lv_aload_n hx hb d_T_bringBack_72 rfl (lv_at hl 1 rfl) ?_
      refine va_get (D := (dC, dI)) (ci := 0) (v := .ref a3) (C := R_T) (T := F_T) (N := 5) hx hb hT i_T hown hK hP 0 rfl rfl 2 (by decide) (hT _ kw_90) (fun _ h9 => h9) rfl d_T_bringBack_73 ?_
      refine lv_iload_n hx hb d_T_bringBack_76 rfl (lv_at hl 2 rfl) ?_
      refine lv_iload_n hx hb d_T_bringBack_77 rfl (lv_at hl 0 rfl) ?_
      refine va_iast hx hb hK hP hD hS 3 0 rfl rfl (ti_vp (by omega) (by omega)) d_T_bringBack_78 (fun H locs hP hD hS => ?_)
      have hP : va_P (dC, dI) classes (wT cI cZ h0 a1 a2 a3 a4 (g_69.1, g_69.2.1, upd g_69.2.2.1 x1.toNatClampNeg y, g_69.2.2.2.1, g_69.2.2.2.2)) H := vz_reP (hW_T_bringBack_78 cI cZ cQ h0 a1 a2 a3 a4 g_69 (upd g_69.2.2.1 x1.toNatClampNeg y)) hP
      have hD : va_D (vz_A (wT cI cZ h0 a1 a2 a3 a4 T)) (wT cI cZ h0 a1 a2 a3 a4 (g_69.1, g_69.2.1, upd g_69.2.2.1 x1.toNatClampNeg y, g_69.2.2.2.1, g_69.2.2.2.2)) := vz_reD (hW_T_bringBack_78 cI cZ cQ h0 a1 a2 a3 a4 g_69 (upd g_69.2.2.1 x1.toNatClampNeg y)) hD
      refine lv_iconst (v := 1) hx hb d_T_bringBack_79 (by decide) ?_
      rw [l_T_bringBack_45] at hres
      try rw [hg_49] at hres
      rw [if_neg c_52] at hres
      try rw [hg_59] at hres
      try rw [hg_69] at hres
      subst hres
      subst hQ
      exact vz_zret hx hb hr (by decide) hlocks d_T_bringBack_80 hS rfl hP
    · have z_52 : g_49.toInt = (0 : Int32).toInt := congrArg Int32.toInt c_52
      refine lv_iconst (v := 0) hx hb d_T_bringBack_55 (by decide) ?_
      rw [l_T_bringBack_45] at hres
      try rw [hg_49] at hres
      rw [if_pos c_52] at hres
      subst hres
      subst hQ
      exact vz_zret hx hb hr (by decide) hlocks d_T_bringBack_56 hS rfl hP
  have hS0 := hS
  refine lv_aload_n hx hb d_T_bringBack_0 rfl (lv_at hl 0 rfl) ?_
  refine va_get (D := (dC, dI)) (ci := 0) (v := .ref a1) (C := R_T) (T := F_T) (N := 5) hx hb hT i_T hown hK hP 0 rfl rfl 0 (by decide) (hT _ kw_86) (fun _ h9 => h9) rfl d_T_bringBack_1 ?_
  refine lv_iload_n hx hb d_T_bringBack_4 rfl (lv_at hl 1 rfl) ?_
  refine va_zald hx hb hK hP 1 1 rfl rfl (ti_vp (by omega) (by omega)) d_T_bringBack_5 ?_
  refine lv_if_eq (tgt := 19) hx hb d_T_bringBack_6 (by decide) (fun c_6 => ?_) (fun c_6 => ?_)
  · have z_6 : (T.1 x1.toNatClampNeg).toInt = (0 : Int32).toInt := congrArg Int32.toInt c_6
    refine lv_iconst (v := 0) hx hb d_T_bringBack_19 (by decide) ?_
    rw [m_T_bringBack, if_pos c_6] at hres
    subst hres
    subst hQ
    exact vz_zret hx hb hr (by decide) hlocks d_T_bringBack_20 hS rfl hP
  · have z_6 : ¬ (T.1 x1.toNatClampNeg).toInt = (0 : Int32).toInt := mt Int32.toInt_inj.mp c_6
    refine lv_aload_n hx hb d_T_bringBack_9 rfl (lv_at hl 0 rfl) ?_
    refine va_get (D := (dC, dI)) (ci := 0) (v := .ref a2) (C := R_T) (T := F_T) (N := 5) hx hb hT i_T hown hK hP 0 rfl rfl 1 (by decide) (hT _ kw_88) (fun _ h9 => h9) rfl d_T_bringBack_10 ?_
    refine lv_iload_n hx hb d_T_bringBack_13 rfl (lv_at hl 1 rfl) ?_
    refine va_iald hx hb hK hP 2 0 rfl rfl (ti_vp (by omega) (by omega)) d_T_bringBack_14 ?_
    refine lv_iconst (v := -1) hx hb d_T_bringBack_15 (by decide) ?_
    refine lv_icmp_eq (tgt := 21) hx hb d_T_bringBack_16 (by decide) (fun c_16 => ?_) (fun c_16 => ?_)
    · have z_16 : (T.2.1 x1.toNatClampNeg).toInt = (-1 : Int32).toInt := congrArg Int32.toInt c_16
      refine lv_aload_n hx hb d_T_bringBack_21 rfl (lv_at hl 0 rfl) ?_
      refine lv_iload_n hx hb d_T_bringBack_22 rfl (lv_at hl 1 rfl) ?_
      refine lv_aload_n hx hb d_T_bringBack_23 rfl (lv_at hl 0 rfl) ?_
      refine va_get (D := (dC, dI)) (ci := 0) (v := .ref a3) (C := R_T) (T := F_T) (N := 5) hx hb hT i_T hown hK hP 0 rfl rfl 2 (by decide) (hT _ kw_90) (fun _ h9 => h9) rfl d_T_bringBack_24 ?_
      refine lv_iload_n hx hb d_T_bringBack_27 rfl (lv_at hl 1 rfl) ?_
      refine va_iald hx hb hK hP 3 0 rfl rfl (ti_vp (by omega) (by omega)) d_T_bringBack_28 ?_
      have hc := c_T_mayLie l dC dI cI cZ cQ h0 a1 a2 a3 a4 T x1 (T.2.2.1 x1.toNatClampNeg) (hok) (by omega) (hw)
      generalize hg_29 : (m_T_mayLie T x1 (T.2.2.1 x1.toNatClampNeg)) = g_29 at hc
      refine vz_callV (As := [.int x1, .int (T.2.2.1 x1.toNatClampNeg)]) (rest := []) ⟨hx, hb, hml, hown, hT⟩ hc (vz_goodV kw_193 kw_195 ks_6 kw_4 kw_196) ⟨rfl, hd_T_mayLie⟩ ⟨⟨rfl, rfl⟩, Nat.le_of_ble_eq_true rfl, Nat.le_of_ble_eq_true rfl⟩ hK hP hD hS [0, 1, 2, 3, 4] rfl (hC_T_bringBack_29 cI cZ cQ h0 a1 a2 a3 a4 T) (hF_T_mayLie cI cZ cQ _ _) 0 0 rfl rfl rfl rfl hl.1 rfl (Nat.le_of_ble_eq_true rfl) ⟨Nat.zero_le _, Nat.zero_le _⟩ d_T_bringBack_29 (fun H locs hP hD hS => ?_)
      have hP : va_P (dC, dI) classes (wT cI cZ h0 a1 a2 a3 a4 T) H := vz_reP (hU_T_bringBack_29 cI cZ cQ h0 a1 a2 a3 a4 T ) hP
      have hD : va_D (vz_A (wT cI cZ h0 a1 a2 a3 a4 T)) (wT cI cZ h0 a1 a2 a3 a4 T) := vz_reD (hU_T_bringBack_29 cI cZ cQ h0 a1 a2 a3 a4 T ) hD
      refine W.eq (g2 := F0 m 32 ls [.int g_29]) rfl ?_
      refine lv_if_eq (tgt := 44) hx hb d_T_bringBack_32 (by decide) (fun c_32 => ?_) (fun c_32 => ?_)
      · have z_32 : g_29.toInt = (0 : Int32).toInt := congrArg Int32.toInt c_32
        refine lv_iconst (v := 0) hx hb d_T_bringBack_44 (by decide) ?_
        rw [m_T_bringBack, if_neg c_6, if_pos c_16] at hres
        try rw [hg_29] at hres
        rw [if_pos c_32] at hres
        exact k_45 0  hres (by first | exact hw | omega) _ _ ls hP hD hS (lv_sub hl [0, 1] rfl)
      · have z_32 : ¬ g_29.toInt = (0 : Int32).toInt := mt Int32.toInt_inj.mp c_32
        refine lv_aload_n hx hb d_T_bringBack_35 rfl (lv_at hl 0 rfl) ?_
        refine va_get (D := (dC, dI)) (ci := 0) (v := .ref a3) (C := R_T) (T := F_T) (N := 5) hx hb hT i_T hown hK hP 0 rfl rfl 2 (by decide) (hT _ kw_90) (fun _ h9 => h9) rfl d_T_bringBack_36 ?_
        refine lv_iload_n hx hb d_T_bringBack_39 rfl (lv_at hl 1 rfl) ?_
        refine va_iald hx hb hK hP 3 0 rfl rfl (ti_vp (by omega) (by omega)) d_T_bringBack_40 ?_
        refine lv_goto (tgt := 45) hx hb d_T_bringBack_41 (by decide) ?_
        rw [m_T_bringBack, if_neg c_6, if_pos c_16] at hres
        try rw [hg_29] at hres
        rw [if_neg c_32] at hres
        exact k_45 (T.2.2.1 x1.toNatClampNeg)  hres (by first | exact hw | omega) _ _ ls hP hD hS (lv_sub hl [0, 1] rfl)
    · have z_16 : ¬ (T.2.1 x1.toNatClampNeg).toInt = (-1 : Int32).toInt := mt Int32.toInt_inj.mp c_16
      refine lv_iconst (v := 0) hx hb d_T_bringBack_19 (by decide) ?_
      rw [m_T_bringBack, if_neg c_6, if_neg c_16] at hres
      subst hres
      subst hQ
      exact vz_zret hx hb hr (by decide) hlocks d_T_bringBack_20 hS rfl hP
