theorem d_P_knows_0 : decode b_P_knows 0 = .ok (.aload_n 0, 1) := by decide +kernel
theorem d_P_knows_1 : decode b_P_knows 1 = .ok (.getfield 9, 3) := by decide +kernel
theorem d_P_knows_4 : decode b_P_knows 4 = .ok (.iload_n 1, 1) := by decide +kernel
theorem d_P_knows_5 : decode b_P_knows 5 = .ok (.iaload, 1) := by decide +kernel
theorem d_P_knows_6 : decode b_P_knows 6 = .ok (.ifCond .eq 7, 3) := by decide +kernel
theorem d_P_knows_9 : decode b_P_knows 9 = .ok (.iconst 1, 1) := by decide +kernel
theorem d_P_knows_10 : decode b_P_knows 10 = .ok (.goto 4, 3) := by decide +kernel
theorem d_P_knows_13 : decode b_P_knows 13 = .ok (.iconst 0, 1) := by decide +kernel
theorem d_P_knows_14 : decode b_P_knows 14 = .ok (.ireturn, 1) := by decide +kernel
def m_P_knows (P : cP) (x1 : Int32) : Int32 := (if (P.1 x1.toNatClampNeg) = 0 then 0 else 1)
set_option maxHeartbeats 1000000 in
set_option maxRecDepth 100000 in
theorem c_P_knows (l : Launch) (dC : Nat → ClassId) (dI : Nat → Nat → Nat) (cI cZ cQ : ClassId) (p0 : Nat) (p1 : Nat) (h0 : Nat) (a1 : Nat) (a2 : Nat) (a3 : Nat) (a4 : Nat) (P : cP) (x1 : Int32) (h1 : 0 ≤ x1.toInt ∧ x1.toInt < 301) : vz_C l (dC, dI) classes [(cI, .int), (cZ, .boolean), (cQ, .object "BinTrees$Person")] y_P_knows (Cond.code y_P_knows b_P_knows 2 (some .boolean) :: vz_tbl) ({ frames := 0, cells := 0, slots := 0, locals := 0 }) [.ref p0, .int x1] (wP cI cZ p0 p1 h0 a1 a2 a3 a4 P) (some (.int (m_P_knows P x1))) (wP cI cZ p0 p1 h0 a1 a2 a3 a4 P) := by
  generalize hres : (m_P_knows P x1) = RES
  refine vz_C.of (by decide) (Nat.le_of_ble_eq_true rfl) ?_
  intro p e s m below meth c ls E hl hK hP hD hS
  obtain ⟨hx, hb, hr, hml, hown, hT, hlocks⟩ := E
  obtain ⟨Q, hQ⟩ : ∃ Q, Q = MQ below (vz_Q (dC, dI) classes (wP cI cZ p0 p1 h0 a1 a2 a3 a4 P) (some (.int RES)) (wP cI cZ p0 p1 h0 a1 a2 a3 a4 P)) ([.ref p0, .int x1] : List Value).toArray s 0 0 (vz_A (wP cI cZ p0 p1 h0 a1 a2 a3 a4 P)) := ⟨_, rfl⟩
  rw [← hQ]
  have hl : lv_has ls 2 [(0, .ref p0), (1, .int x1)] := hl
  have T0 := ti_0
  have T1 := ti_1
  have Tm := ti_m1
  have T8 := ti_8
  have T39 := ti_39
  have T40 := ti_40
  have T4 := ti_4
  have T300 := ti_300
  have hS0 := hS
  refine lv_aload_n hx hb d_P_knows_0 rfl (lv_at hl 0 rfl) ?_
  refine va_get (D := (dC, dI)) (ci := 2) (v := .ref p1) (C := R_P) (T := F_P) (N := 5) hx hb hT i_P hown hK hP 0 rfl rfl 0 (by decide) (hT _ kw_107) (fun _ h9 => h9) rfl d_P_knows_1 ?_
  refine lv_iload_n hx hb d_P_knows_4 rfl (lv_at hl 1 rfl) ?_
  refine va_iald hx hb hK hP 1 0 rfl rfl (ti_vp (by omega) (by omega)) d_P_knows_5 ?_
  refine lv_if_eq (tgt := 13) hx hb d_P_knows_6 (by decide) (fun c_6 => ?_) (fun c_6 => ?_)
  · have z_6 : (P.1 x1.toNatClampNeg).toInt = (0 : Int32).toInt := congrArg Int32.toInt c_6
    refine lv_iconst (v := 0) hx hb d_P_knows_13 (by decide) ?_
    rw [m_P_knows, if_pos c_6] at hres
    subst hres
    subst hQ
    exact vz_zret hx hb hr (by decide) hlocks d_P_knows_14 hS rfl hP
  · have z_6 : ¬ (P.1 x1.toNatClampNeg).toInt = (0 : Int32).toInt := mt Int32.toInt_inj.mp c_6
    refine lv_iconst (v := 1) hx hb d_P_knows_9 (by decide) ?_
    refine lv_goto (tgt := 14) hx hb d_P_knows_10 (by decide) ?_
    rw [m_P_knows, if_neg c_6] at hres
    subst hres
    subst hQ
    exact vz_zret hx hb hr (by decide) hlocks d_P_knows_14 hS rfl hP
