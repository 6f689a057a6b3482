/-! the calls that write -/
theorem bn_0 {x : Int32} : m_B_isNode x = 0 ↔ ¬ (0 ≤ x.toInt ∧ x.toInt < 4) := by
  unfold m_B_isNode
  have a := @Int32.lt_iff_toInt_lt x 0
  have b := @Int32.le_iff_toInt_le 4 x
  rw [ti_0] at a; rw [ti_4] at b
  by_cases h1 : x < 0
  · rw [if_pos h1]; have := a.mp h1; exact ⟨fun _ h => by omega, fun _ => rfl⟩
  · rw [if_neg h1]
    have := mt a.mpr h1
    by_cases h2 : 4 ≤ x
    · rw [if_pos h2]; have := b.mp h2; exact ⟨fun _ h => by omega, fun _ => rfl⟩
    · rw [if_neg h2]; have := mt b.mpr h2; exact ⟨fun e => absurd e (by decide), fun h => absurd ⟨by omega, by omega⟩ h⟩
theorem mw_0 {x a b : Int32} : m_M_within x a b = 0 ↔ ¬ (a.toInt ≤ x.toInt ∧ x.toInt ≤ b.toInt) := by
  unfold m_M_within
  have h3 := @Int32.lt_iff_toInt_lt x a
  have h4 := @Int32.lt_iff_toInt_lt b x
  by_cases h1 : x < a
  · rw [if_pos h1]; have := h3.mp h1; exact ⟨fun _ h => by omega, fun _ => rfl⟩
  · rw [if_neg h1]
    have := mt h3.mpr h1
    by_cases h2 : b < x
    · rw [if_pos h2]; have := h4.mp h2; exact ⟨fun _ h => by omega, fun _ => rfl⟩
    · rw [if_neg h2]; have := mt h4.mpr h2; exact ⟨fun e => absurd e (by decide), fun h => absurd ⟨by omega, by omega⟩ h⟩
theorem mn_0 {x : Int32} : m_M_isNode x = 0 ↔ ¬ (0 ≤ x.toInt ∧ x.toInt < 4) := by
  unfold m_M_isNode
  rw [mw_0, ti_0, ti_3]
  constructor <;> intro h g <;> exact h (by omega)
theorem bo_0 {L : cL} {x : Int32} : m_B_isObject L x = 0 ↔ ¬ (0 ≤ x.toInt ∧ x.toInt ≤ L.2.2.2.2.2.2.2.2.2.toInt) := by
  unfold m_B_isObject
  have h3 := @Int32.lt_iff_toInt_lt x 0
  have h4 := @Int32.lt_iff_toInt_lt L.2.2.2.2.2.2.2.2.2 x
  rw [ti_0] at h3
  by_cases h1 : x < 0
  · rw [if_pos h1]; have := h3.mp h1; exact ⟨fun _ h => by omega, fun _ => rfl⟩
  · rw [if_neg h1]
    have := mt h3.mpr h1
    by_cases h2 : L.2.2.2.2.2.2.2.2.2 < x
    · rw [if_pos h2]; have := h4.mp h2; exact ⟨fun _ h => by omega, fun _ => rfl⟩
    · rw [if_neg h2]; have := mt h4.mpr h2; exact ⟨fun e => absurd e (by decide), fun h => absurd ⟨by omega, by omega⟩ h⟩
theorem bm_0 {L : cL} {x : Int32} : m_B_isMade L x = 0 ↔ ¬ (1 ≤ x.toInt ∧ x.toInt ≤ L.2.2.2.2.2.2.2.2.2.toInt) := by
  unfold m_B_isMade
  have h3 := @Int32.le_iff_toInt_le x 0
  have h4 := @Int32.lt_iff_toInt_lt L.2.2.2.2.2.2.2.2.2 x
  rw [ti_0] at h3
  by_cases h1 : x ≤ 0
  · rw [if_pos h1]; have := h3.mp h1; exact ⟨fun _ h => by omega, fun _ => rfl⟩
  · rw [if_neg h1]
    have := mt h3.mpr h1
    by_cases h2 : L.2.2.2.2.2.2.2.2.2 < x
    · rw [if_pos h2]; have := h4.mp h2; exact ⟨fun _ h => by omega, fun _ => rfl⟩
    · rw [if_neg h2]; have := mt h4.mpr h2; exact ⟨fun e => absurd e (by decide), fun h => absurd ⟨by omega, by omega⟩ h⟩
theorem br_0 {L : cL} {x : Int32} : m_B_isRow L x = 0 ↔ ¬ (1 ≤ x.toInt ∧ x.toInt ≤ L.2.2.2.2.2.2.2.2.1.toInt) := by
  unfold m_B_isRow
  have h3 := @Int32.lt_iff_toInt_lt x 1
  have h4 := @Int32.lt_iff_toInt_lt L.2.2.2.2.2.2.2.2.1 x
  rw [ti_1] at h3
  by_cases h1 : x < 1
  · rw [if_pos h1]; have := h3.mp h1; exact ⟨fun _ h => by omega, fun _ => rfl⟩
  · rw [if_neg h1]
    have := mt h3.mpr h1
    by_cases h2 : L.2.2.2.2.2.2.2.2.1 < x
    · rw [if_pos h2]; have := h4.mp h2; exact ⟨fun _ h => by omega, fun _ => rfl⟩
    · rw [if_neg h2]; have := mt h4.mpr h2; exact ⟨fun e => absurd e (by decide), fun h => absurd ⟨by omega, by omega⟩ h⟩
theorem bw_0 {L : cL} {x : Int32} : m_B_mayWrite L x = 0 ↔ ¬ ((0 ≤ x.toInt ∧ x.toInt < 4) ∧ L.2.2.2.2.2.2.2.2.1.toInt < 300) := by
  unfold m_B_mayWrite
  have h4 := @Int32.le_iff_toInt_le 300 L.2.2.2.2.2.2.2.2.1
  rw [ti_300] at h4
  by_cases h1 : m_B_isNode x = 0
  · rw [if_pos h1]; have := bn_0.mp h1; exact ⟨fun _ h => this h.1, fun _ => rfl⟩
  · rw [if_neg h1]
    have := mt bn_0.mpr h1
    by_cases h2 : 300 ≤ L.2.2.2.2.2.2.2.2.1
    · rw [if_pos h2]; have := h4.mp h2; exact ⟨fun _ h => by omega, fun _ => rfl⟩
    · rw [if_neg h2]
      have h5 := mt h4.mpr h2
      exact ⟨fun e => absurd e (by decide), fun h => absurd ⟨Classical.not_not.mp this, by omega⟩ h⟩
def pZ (M : cM) : cM := (M.1, M.2.1, M.2.2.1, M.2.2.2.1, (0, M.2.2.2.2.2.1, M.2.2.2.2.2.2.1, M.2.2.2.2.2.2.2.1, M.2.2.2.2.2.2.2.2.1, M.2.2.2.2.2.2.2.2.2))
theorem pZ_R {L : cL} {F : Nat → cP} {M : cM} {c md : Nat} (h : pREL L F M c md) : pREL L F (pZ M) c md := h
/-- the person that a call is for; any, where there is none -/
def pI (x : Int32) : Nat := if 0 ≤ x.toInt ∧ x.toInt < 4 then x.toNatClampNeg else 0
theorem pI_4 (x : Int32) : pI x < 4 := by
  unfold pI
  split
  · rename_i h; have := pn_i h.1; omega
  · omega
theorem pI_q {x : Int32} (h : 0 ≤ x.toInt ∧ x.toInt < 4) : pq (pI x) = x ∧ pI x = x.toNatClampNeg := by
  unfold pI
  rw [if_pos h]; exact ⟨pq_of h.1, rfl⟩
theorem fU_id {F : Nat → cP} {n : Nat} : fU F n (F n) = F := by
  funext i
  by_cases e : i = n
  · rw [e, fU_s]
  · rw [fU_n e]
theorem pl_ok' {L : cL} {c md : Nat} (hL : pLog L c md) {P : cP} {r : Int32} (hr : r ∈ rws c) (hK : pKn c P.1) (hT : okT P.2.1) : okTold L P r := by
  have hr1 := (rws_m hL.1.1).mp hr
  refine ⟨hT, pLog_okR hL hr, pLog_okL hL, pj_ok hL ?_ ?_⟩
  · rw [learn_eq]; exact hT
  · rw [learn_eq]; exact pKn_upd hL.1.1 hK hr1
def pM1 (M : cM) (c : Nat) (s nd t o p b : Int32) : cM := ((pq (c + 1), M.1.2.1, upd M.1.2.2.1 (c + 1) s, upd M.1.2.2.2.1 (c + 1) nd, upd M.1.2.2.2.2.1 (c + 1) t, upd M.1.2.2.2.2.2.1 (c + 1) o, upd M.1.2.2.2.2.2.2.1 (c + 1) p, upd M.1.2.2.2.2.2.2.2 (c + 1) b), M.2.1, M.2.2.1, M.2.2.2.1, M.2.2.2.2)
/-- a row is added -/
theorem pw_add {L : cL} {F : Nat → cP} {M : cM} {c md : Nat} (h : pREL L F M c md) {n : Nat} (hn : n < 4) (hc : c < 300) {s o p b : Int32} (hO : pOK L c md s (pq n) ((F n).2.2.2.1 + 1) o p) :
    (m_L_add L s (pq n) ((F n).2.2.2.1 + 1) o p b).1 = pq (c + 1) ∧ (m_L_add L s (pq n) ((F n).2.2.2.1 + 1) o p b).2.2.2.2.2.2.2.2.2.2 = pq md ∧ okTold (m_L_add L s (pq n) ((F n).2.2.2.1 + 1) o p b).2 (F n) (pq (c + 1)) ∧ (m_M_add M (pq n) s o p b).1 = pq (c + 1) ∧ (m_M_add M (pq n) s o p b).2.1.2.2.2.2.2.1 (c + 1) = o
    ∧ (m_B_told (m_L_add L s (pq n) ((F n).2.2.2.1 + 1) o p b).2 (F n) (pq n) (pq (c + 1))).1 = pq (c + 1)
    ∧ pREL (m_L_add L s (pq n) ((F n).2.2.2.1 + 1) o p b).2 (fU F n (m_B_told (m_L_add L s (pq n) ((F n).2.2.2.1 + 1) o p b).2 (F n) (pq n) (pq (c + 1))).2) (m_M_add M (pq n) s o p b).2 (c + 1) md := by
  obtain ⟨⟨hL, hR, h01, hor, h4, hP⟩, hTO, hB⟩ := h
  obtain ⟨f', e, hL', a, e', g1, g2⟩ := pLog_add hL hc (b := b) hO
  rw [e]
  have hnn : (pq n).toNatClampNeg = n := pq_n (by omega)
  obtain ⟨k1, k2, k3, k4, k5, k6⟩ := hP n hn
  have hrn : (pq (c + 1)).toNatClampNeg = c + 1 := pq_n (by omega)
  have hri : (pq (c + 1)).toInt = c + 1 := by rw [pq_i (by omega)]; omega
  have hr : pq (c + 1) ∈ rws (c + 1) := (rws_m (by omega)).mpr (by rw [hri]; omega)
  have eM : m_M_add M (pq n) s o p b = ((m_M_learn (pM1 M c s (pq n) ((F n).2.2.2.1 + 1) o p b) (pq n) (pq (c + 1))).1.1, m_M_learn (pM1 M c s (pq n) ((F n).2.2.2.1 + 1) o p b) (pq n) (pq (c + 1))) := by
    unfold m_M_add pM1
    rw [hR.1, pq_inc, hrn, hnn, k5]
  have hR' : rR (pM1 M c s (pq n) ((F n).2.2.2.1 + 1) o p b).1 (pNew L c s (pq n) ((F n).2.2.2.1 + 1) o p b f' (pq md)) (c + 1) md := by
    refine ⟨rfl, hR.2.1, fun x hx => ?_⟩
    rw [rws_s] at hx
    rcases List.mem_append.mp hx with hx | hx
    · have hx1 := (rws_m (by omega)).mp hx
      have hxn := pn_i (x := x) (by omega)
      have hne : x.toNatClampNeg ≠ c + 1 := by omega
      obtain ⟨x1, x2, x3, x4, x5, x6⟩ := hR.2.2 x hx
      obtain ⟨y1, y2, y3, y4, y5, y6⟩ := pNew_o (L := L) hc (s := s) (nd := pq n) (t := (F n).2.2.2.1 + 1) (o := o) (p := p) (b := b) (f := f') (m := pq md) (x := x) (by omega) (by omega)
      rw [y1, y2, y3, y4, y5, y6]
      exact ⟨(pk_un hne).trans x1, (pk_un hne).trans x2, (pk_un hne).trans x3, (pk_un hne).trans x4, (pk_un hne).trans x5, (pk_un hne).trans x6⟩
    · rw [List.mem_singleton.mp hx]
      obtain ⟨y1, y2, y3, y4, y5, y6⟩ := pNew_n (L := L) hc (s := s) (nd := pq n) (t := (F n).2.2.2.1 + 1) (o := o) (p := p) (b := b) (f := f') (m := pq md)
      rw [y1, y2, y3, y4, y5, y6, hrn]
      exact ⟨pk_us, pk_us, pk_us, pk_us, pk_us, pk_us⟩
  have hper : ∀ m, m < 4 → pPer (pNew L c s (pq n) ((F n).2.2.2.1 + 1) o p b f' (pq md)) (c + 1) (F m) := fun m hm => by
    obtain ⟨j1, j2, j3, j4, j5, j6⟩ := hP m hm
    exact pPer_new hL hc hO g1 g2 ⟨j1, (hTO m hm).1, j2⟩
  have h0 : pR0 (pNew L c s (pq n) ((F n).2.2.2.1 + 1) o p b f' (pq md)) F (pM1 M c s (pq n) ((F n).2.2.2.1 + 1) o p b) (c + 1) md := by
    refine ⟨hL', hR', h01, hor, fun j hj hs => ?_, fun m hm => ?_⟩
    · have hs' : upd M.1.2.2.1 (c + 1) s j = 4 := hs
      show 0 ≤ (upd M.1.2.2.2.2.2.1 (c + 1) o j).toInt ∧ (upd M.1.2.2.2.2.2.1 (c + 1) o j).toInt < 301
      by_cases ej : j = c + 1
      · rw [ej, pk_us] at hs'
        rw [ej, pk_us]
        have := (hO.2.2.2.1 hs').1
        omega
      · rw [pk_un ej] at hs' ⊢
        exact h4 j hj hs'
    · obtain ⟨j1, j2, j3, j4, j5, j6⟩ := hP m hm
      exact ⟨(hper m hm).1, (hper m hm).2.2, j3, j4, j5, j6⟩
  have hfr : (F n).1 (pq (c + 1)).toNatClampNeg = 0 := by rw [hrn]; exact k1.2 (c + 1) (by omega) (by omega)
  obtain ⟨t1, t2, t3⟩ := pw_told h0 hn hr hfr (fun m hm => (hper m hm).2.1) (fun m hm x hx hxm hN => by
    rw [rws_s] at hx
    rcases List.mem_append.mp hx with hx | hx
    · have hx1 := (rws_m (by omega)).mp hx
      obtain ⟨y1, y2, y3, y4, y5, y6⟩ := pNew_o (L := L) hc (s := s) (nd := pq n) (t := (F n).2.2.2.1 + 1) (o := o) (p := p) (b := b) (f := f') (m := pq md) (x := x) (by omega) (by omega)
      rw [y2] at hN
      exact (hTO m hm).2 x hx hN
    · have ex := List.mem_singleton.mp hx
      rw [ex, (pNew_n (L := L) hc (s := s) (nd := pq n) (t := (F n).2.2.2.1 + 1) (o := o) (p := p) (b := b) (f := f') (m := pq md)).2.1] at hN
      have := (pq_inj (a := n) (b := m) (by omega) (by omega)).mp hN
      rcases hxm with h | h
      · exact absurd ex h
      · exact absurd this.symm h) (pq n)
  refine ⟨rfl, rfl, pl_ok' hL' hr (hper n hn).1 k3, ?_, ?_, t2, ?_⟩
  · rw [eM]; show (m_M_learn _ _ _).1.1 = _; rw [learnM_eq]; rfl
  · rw [eM]; show (m_M_learn _ _ _).1.2.2.2.2.2.1 (c + 1) = _; rw [learnM_eq]; exact pk_us
  · rw [eM]; exact t1
theorem pOK_t {L : cL} {F : Nat → cP} {M : cM} {c md : Nat} (h : pREL L F M c md) {n : Nat} (hn : n < 4) : (1 ≤ ((F n).2.2.2.1 + 1).toInt ∧ ((F n).2.2.2.1 + 1).toInt ≤ c + 1) ∧ ∀ x ∈ rws c, zlN L x = pq n → (zlT L x).toInt < ((F n).2.2.2.1 + 1).toInt := by
  obtain ⟨⟨hL, hR, h01, hor, h4, hP⟩, hTO, hB⟩ := h
  have hc := hL.1.1
  obtain ⟨k1, k2, k3, k4, k5, k6⟩ := hP n hn
  obtain ⟨t, e1, e2, e3⟩ := k2.2
  rw [e1, pq_inc, pq_i (by omega)]
  refine ⟨by omega, fun x hx hN => ?_⟩
  have := e3 x hx ((hTO n hn).2 x hx hN)
  omega
theorem pn_node {n : Nat} (hn : n < 4) : 0 ≤ (pq n).toInt ∧ (pq n).toInt < 4 := by rw [pq_i (by omega)]; omega
theorem pr_cnt {L : cL} {F : Nat → cP} {M : cM} {c md : Nat} (h : pREL L F M c md) : L.2.2.2.2.2.2.2.2.1.toInt = c ∧ L.2.2.2.2.2.2.2.2.2.toInt = md ∧ M.1.1.toInt = c ∧ M.1.2.1.toInt = md + 1 ∧ c ≤ 300 ∧ md ≤ 39 := by
  have hL := h.1.1
  have hR := h.1.2.1
  have := hL.1
  rw [hL.2.1.1, hL.2.1.2, hR.1, hR.2.1]
  rw [pq_i (by omega), pq_i (by omega), pq_i (by omega)]
  omega
theorem pr_300 {L : cL} {F : Nat → cP} {M : cM} {c md : Nat} (h : pREL L F M c md) : M.1.1 = 300 ↔ c = 300 := by
  have := pr_cnt h
  rw [h.1.2.1.1, ← pq_300, pq_inj (by omega) (by omega)]
/-- the conditions that each contract of the reference takes -/
theorem pr_hyps {L : cL} {F : Nat → cP} {M : cM} {c md : Nat} (h : pREL L F M c md) : (0 ≤ M.1.1.toInt ∧ M.1.1.toInt ≤ 300) ∧ (1 ≤ M.1.2.1.toInt ∧ M.1.2.1.toInt ≤ 40) ∧ (∀ j, j < 1204 → M.2.1.1 j = 0 ∨ M.2.1.1 j = 1) := by
  have := pr_cnt h
  exact ⟨by omega, by omega, h.1.2.2.1⟩
theorem q_move {L : cL} {F : Nat → cP} {M : cM} {c md : Nat} (h : pREL L F M c md) (x1 x2 x3 x4 : Int32) :
    ((0 ≤ x1.toInt ∧ x1.toInt < 4) → L.2.2.2.2.2.2.2.2.1.toInt < 300 → (1 ≤ x2.toInt ∧ x2.toInt ≤ L.2.2.2.2.2.2.2.2.2.toInt) → (0 ≤ x3.toInt ∧ x3.toInt ≤ L.2.2.2.2.2.2.2.2.2.toInt) → (x4 = -1 ∨ (0 ≤ x4.toInt ∧ x4.toInt ≤ L.2.2.2.2.2.2.2.2.2.toInt)) → okTold (m_L_add L 1 x1 ((F (pI x1)).2.2.2.1 + 1) x2 x3 x4).2 (F (pI x1)) (m_L_add L 1 x1 ((F (pI x1)).2.2.2.1 + 1) x2 x3 x4).1)
    ∧ (m_B_move L (F (pI x1)) x1 x2 x3 x4).1 = (m_M_move M x1 x2 x3 x4).1 ∧ ∃ c' md', pREL (m_B_move L (F (pI x1)) x1 x2 x3 x4).2.1 (fU F (pI x1) (m_B_move L (F (pI x1)) x1 x2 x3 x4).2.2) (m_M_move M x1 x2 x3 x4).2 c' md' := by
  obtain ⟨c1, c2, c3, c4, c5, c6⟩ := pr_cnt h
  have h4 := pI_4 x1
  have eM : m_M_move M x1 x2 x3 x4 = (if m_M_isNode x1 = 0 then (-1, pZ M) else if m_M_within x2 1 (M.1.2.1 - 1) = 0 then (-1, pZ M) else if m_M_within x3 0 (M.1.2.1 - 1) = 0 then (-1, pZ M) else if m_M_within x4 (-1) (M.1.2.1 - 1) = 0 then (-1, pZ M) else if M.1.1 = 300 then (-1, pZ M) else ((m_M_add (pZ M) x1 1 x2 x3 x4).1, (m_M_add (pZ M) x1 1 x2 x3 x4).2)) := rfl
  have eob : (M.1.2.1 - 1).toInt = md := by rw [ti_dec' (by omega)]; omega
  have hstay : ∃ c' md', pREL L (fU F (pI x1) (F (pI x1))) (pZ M) c' md' := ⟨c, md, by rw [fU_id]; exact h⟩
  have hadd : (0 ≤ x1.toInt ∧ x1.toInt < 4) → c < 300 → (1 ≤ x2.toInt ∧ x2.toInt ≤ md) → (0 ≤ x3.toInt ∧ x3.toInt ≤ md) → pOK L c md 1 x1 ((F (pI x1)).2.2.2.1 + 1) x2 x3 := fun g1 g2 g3 g4 => by
    obtain ⟨t1, t2⟩ := pOK_t h h4
    rw [(pI_q g1).1] at t2
    exact ⟨by rw [ti_1]; omega, fun _ => g3, fun _ => g4, fun e => absurd e (by decide), g1, t1, t2, fun e => absurd e (by decide)⟩
  refine ⟨fun g1 g2 g3 g4 _ => ?_, ?_⟩
  · have := pw_add h h4 (by omega) (s := 1) (o := x2) (p := x3) (b := x4) (by rw [(pI_q g1).1]; exact hadd g1 (by omega) (by omega) (by omega))
    rw [(pI_q g1).1] at this
    rw [this.1]; exact this.2.2.1
  · rw [eM]
    unfold m_B_move
    by_cases g1 : (0 ≤ x1.toInt ∧ x1.toInt < 4)
    · rw [if_neg (fun e => mn_0.mp e g1)]
      by_cases g2 : c < 300
      · rw [if_neg (fun e => bw_0.mp e ⟨g1, by omega⟩)]
        by_cases g3 : (1 ≤ x2.toInt ∧ x2.toInt ≤ md)
        · rw [if_neg (fun e => bm_0.mp e (by omega)), if_neg (fun e => mw_0.mp e (by rw [ti_1, eob]; exact g3))]
          by_cases g4 : (0 ≤ x3.toInt ∧ x3.toInt ≤ md)
          · rw [if_neg (fun e => bo_0.mp e (by omega)), if_neg (fun e => mw_0.mp e (by rw [ti_0, eob]; exact g4))]
            have hw := pw_add h h4 g2 (s := 1) (o := x2) (p := x3) (b := x4) (by rw [(pI_q g1).1]; exact hadd g1 g2 g3 g4)
            rw [(pI_q g1).1] at hw
            have hw2 : (m_M_add (pZ M) x1 1 x2 x3 x4).1 = pq (c + 1) ∧ pREL (m_L_add L 1 x1 ((F (pI x1)).2.2.2.1 + 1) x2 x3 x4).2 (fU F (pI x1) (m_B_told (m_L_add L 1 x1 ((F (pI x1)).2.2.2.1 + 1) x2 x3 x4).2 (F (pI x1)) x1 (pq (c + 1))).2) (m_M_add (pZ M) x1 1 x2 x3 x4).2 (c + 1) md := by
              have := pw_add (pZ_R h) h4 g2 (s := 1) (o := x2) (p := x3) (b := x4) (by rw [(pI_q g1).1]; exact hadd g1 g2 g3 g4)
              rw [(pI_q g1).1] at this
              exact ⟨this.2.2.2.1, this.2.2.2.2.2.2⟩
            have hm300 : ¬ M.1.1 = 300 := fun e => by have := (pr_300 h).mp e; omega
            by_cases e4 : x4 = -1
            · rw [if_pos e4, if_neg (fun e => mw_0.mp e (by rw [e4, ti_m1, eob]; omega)), if_neg hm300]
              refine ⟨?_, c + 1, md, ?_⟩
              · show (m_B_told _ _ _ _).1 = _
                rw [hw.1, hw.2.2.2.2.2.1]; exact hw2.1.symm
              · show pREL _ (fU F (pI x1) (m_B_told _ _ _ (m_L_add L 1 x1 ((F (pI x1)).2.2.2.1 + 1) x2 x3 x4).1).2) _ _ _
                rw [hw.1]; exact hw2.2
            · rw [if_neg e4]
              by_cases g5 : (0 ≤ x4.toInt ∧ x4.toInt ≤ md)
              · rw [if_neg (fun e => bo_0.mp e (by omega)), if_neg (fun e => mw_0.mp e (by rw [ti_m1, eob]; omega)), if_neg hm300]
                refine ⟨?_, c + 1, md, ?_⟩
                · show (m_B_told _ _ _ _).1 = _
                  rw [hw.1, hw.2.2.2.2.2.1]; exact hw2.1.symm
                · show pREL _ (fU F (pI x1) (m_B_told _ _ _ (m_L_add L 1 x1 ((F (pI x1)).2.2.2.1 + 1) x2 x3 x4).1).2) _ _ _
                  rw [hw.1]; exact hw2.2
              · have hne : x4.toInt ≠ -1 := fun e => e4 (pi_ext (by rw [e, ti_m1]))
                rw [if_pos (bo_0.mpr (by omega)), if_pos (mw_0.mpr (by rw [ti_m1, eob]; omega))]
                exact ⟨rfl, hstay⟩
          · rw [if_pos (bo_0.mpr (by omega)), if_pos (mw_0.mpr (by rw [ti_0, eob]; omega))]
            exact ⟨rfl, hstay⟩
        · rw [if_pos (bm_0.mpr (by omega)), if_pos (mw_0.mpr (by rw [ti_1, eob]; omega))]
          exact ⟨rfl, hstay⟩
      · have hm300 : M.1.1 = 300 := (pr_300 h).mpr (by omega)
        rw [if_pos (bw_0.mpr (by omega))]
        rw [if_pos hm300]
        simp only [ite_self]
        exact ⟨trivial, hstay⟩
    · rw [if_pos (mn_0.mpr g1), if_pos (bw_0.mpr (fun hh => g1 hh.1))]
      exact ⟨rfl, hstay⟩
