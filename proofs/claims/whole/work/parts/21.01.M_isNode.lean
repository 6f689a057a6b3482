theorem d_M_isNode_0 : decode b_M_isNode 0 = .ok (.iload_n 0, 1) := by decide +kernel
theorem d_M_isNode_1 : decode b_M_isNode 1 = .ok (.iconst 0, 1) := by decide +kernel
theorem d_M_isNode_2 : decode b_M_isNode 2 = .ok (.iconst 3, 1) := by decide +kernel
theorem d_M_isNode_3 : decode b_M_isNode 3 = .ok (.invokestatic 148, 3) := by decide +kernel
theorem d_M_isNode_6 : decode b_M_isNode 6 = .ok (.ireturn, 1) := by decide +kernel
theorem hC_M_isNode_3 (cI cZ cQ : ClassId)   : ([] : List Nat).map (fun i => (([] : va_W) : va_W)[i]?) = (([] : va_W) : va_W).map some := rfl
theorem hF_M_within (cI cZ cQ : ClassId)   : (([] : va_W) : va_W).map Prod.fst = (([] : va_W) : va_W).map Prod.fst := rfl
theorem hU_M_isNode_3 (cI cZ cQ : ClassId)    : vz_put (([] : va_W) : va_W) [] (([] : va_W) : va_W) = ([] : va_W) := (show vz_put ([] : va_W) [] ([] : va_W) = [] from rfl).trans rfl
def m_M_isNode (x0 : Int32) : Int32 := (m_M_within x0 0 3)
set_option maxHeartbeats 1000000 in
set_option maxRecDepth 100000 in
theorem c_M_isNode (l : Launch) (dC : Nat → ClassId) (dI : Nat → Nat → Nat) (cI cZ cQ : ClassId) (x0 : Int32)  : vz_C l (dC, dI) classes [(cI, .int), (cZ, .boolean), (cQ, .object "BinTrees$Person")] y_M_isNode (Cond.code y_M_isNode b_M_isNode 1 (some .boolean) :: vz_tbl) ({ frames := 1, cells := 0, slots := 0, locals := 22 }) [.int x0] (([] : va_W)) (some (.int (m_M_isNode x0))) (([] : va_W)) := by
  generalize hres : (m_M_isNode x0) = RES
  refine vz_C.of (by decide) (Nat.le_of_ble_eq_true rfl) ?_
  intro p e s m below meth c ls E hl hK hP hD hS
  obtain ⟨hx, hb, hr, hml, hown, hT, hlocks⟩ := E
  obtain ⟨Q, hQ⟩ : ∃ Q, Q = MQ below (vz_Q (dC, dI) classes (([] : va_W)) (some (.int RES)) (([] : va_W))) ([.int x0] : List Value).toArray s 0 0 (vz_A (([] : va_W))) := ⟨_, rfl⟩
  rw [← hQ]
  have hl : lv_has ls 1 [(0, .int x0)] := hl
  have T0 := ti_0
  have T1 := ti_1
  have Tm := ti_m1
  have T8 := ti_8
  have T39 := ti_39
  have T40 := ti_40
  have T4 := ti_4
  have T300 := ti_300
  have T2 := ti_2
  have T3 := ti_3
  have T10 := ti_10
  have T301 := ti_301
  have T43 := ti_43
  have hS0 := hS
  refine lv_iload_n hx hb d_M_isNode_0 rfl (lv_at hl 0 rfl) ?_
  refine lv_iconst (v := 0) hx hb d_M_isNode_1 (by decide) ?_
  refine lv_iconst (v := 3) hx hb d_M_isNode_2 (by decide) ?_
  have hc := c_M_within l dC dI cI cZ cQ x0 0 3 
  generalize hg_3 : (m_M_within x0 0 3) = g_3 at hc
  refine vz_callS (As := [.int x0, .int 0, .int 3]) (rest := []) ⟨hx, hb, hml, hown, hT⟩ hc (vz_goodS kw_402 kw_403 kw_5 kw_404) hd_M_within ⟨⟨rfl, rfl⟩, Nat.le_of_ble_eq_true rfl, Nat.le_of_ble_eq_true rfl⟩ hK hP hD hS [] rfl (hC_M_isNode_3 cI cZ cQ  ) (hF_M_within cI cZ cQ ) rfl hl.1 rfl (Nat.le_of_ble_eq_true rfl) ⟨Nat.zero_le _, Nat.zero_le _⟩ d_M_isNode_3 (fun H locs hP hD hS => ?_)
  have hP : va_P (dC, dI) classes (([] : va_W)) H := vz_reP (hU_M_isNode_3 cI cZ cQ   ) hP
  have hD : va_D (vz_A (([] : va_W))) (([] : va_W)) := vz_reD (hU_M_isNode_3 cI cZ cQ   ) hD
  refine W.eq (g2 := F0 m 6 ls [.int g_3]) rfl ?_
  rw [m_M_isNode] at hres
  try rw [hg_3] at hres
  subst hres
  subst hQ
  exact vz_zret hx hb hr (by rw [← hg_3]; exact wi_b) hlocks d_M_isNode_6 hS rfl hP
