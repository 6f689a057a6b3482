/-! make, and the calls that ask -/
theorem pRes_md {L : cL} {v : Int32} {c : Nat} {f : cA} : pRes (L.1, L.2.1, L.2.2.1, L.2.2.2.1, L.2.2.2.2.1, L.2.2.2.2.2.1, L.2.2.2.2.2.2.1, L.2.2.2.2.2.2.2.1, L.2.2.2.2.2.2.2.2.1, v) c f = pRes L c f := by
  unfold pRes
  rw [pRep_log (L := (L.1, L.2.1, L.2.2.1, L.2.2.2.1, L.2.2.2.2.1, L.2.2.2.2.2.1, L.2.2.2.2.2.2.1, L.2.2.2.2.2.2.2.1, L.2.2.2.2.2.2.2.2.1, v)) (K := L) _ _ (fun x hx => ⟨rfl, rfl, rfl, rfl⟩)]
  exact pRep_congr _ _ (fun x hx => Iff.rfl)
theorem pREL_md {L : cL} {F : Nat → cP} {M : cM} {c md : Nat} (h : pREL L F M c md) (hm : md < 39) (X : cX) : pREL (L.1, L.2.1, L.2.2.1, L.2.2.2.1, L.2.2.2.2.1, L.2.2.2.2.2.1, L.2.2.2.2.2.2.1, L.2.2.2.2.2.2.2.1, L.2.2.2.2.2.2.2.2.1, pq (md + 1)) F ((M.1.1, pq (md + 1 + 1), M.1.2.2.1, M.1.2.2.2.1, M.1.2.2.2.2.1, M.1.2.2.2.2.2.1, M.1.2.2.2.2.2.2.1, M.1.2.2.2.2.2.2.2), M.2.1, M.2.2.1, M.2.2.2.1, X) c (md + 1) := by
  obtain ⟨⟨hL, hR, h01, hor, h4, hP⟩, hTO, hB⟩ := h
  refine ⟨⟨pLog_md hL hm, ⟨hR.1, rfl, hR.2.2⟩, h01, hor, h4, fun n hn => hP n hn⟩, fun n hn => ⟨?_, (hTO n hn).2⟩, fun n hn hb => ?_⟩
  · unfold pTr; rw [pRes_md]; exact (hTO n hn).1
  · unfold pBt; rw [pRes_md]; exact hB n hn hb
theorem q_make {L : cL} {F : Nat → cP} {M : cM} {c md : Nat} (h : pREL L F M c md) (x1 : Int32) :
    ((0 ≤ x1.toInt ∧ x1.toInt < 4) → L.2.2.2.2.2.2.2.2.1.toInt < 300 → (L.2.2.2.2.2.2.2.2.2.toInt < 39) → okTold (m_L_add (L.1, L.2.1, L.2.2.1, L.2.2.2.1, L.2.2.2.2.1, L.2.2.2.2.2.1, L.2.2.2.2.2.2.1, L.2.2.2.2.2.2.2.1, L.2.2.2.2.2.2.2.2.1, L.2.2.2.2.2.2.2.2.2 + 1) 0 x1 ((F (pI x1)).2.2.2.1 + 1) (L.2.2.2.2.2.2.2.2.2 + 1) (-1) (-1)).2 (F (pI x1)) (m_L_add (L.1, L.2.1, L.2.2.1, L.2.2.2.1, L.2.2.2.2.1, L.2.2.2.2.2.1, L.2.2.2.2.2.2.1, L.2.2.2.2.2.2.2.1, L.2.2.2.2.2.2.2.2.1, L.2.2.2.2.2.2.2.2.2 + 1) 0 x1 ((F (pI x1)).2.2.2.1 + 1) (L.2.2.2.2.2.2.2.2.2 + 1) (-1) (-1)).1)
    ∧ (m_B_make L (F (pI x1)) x1).1 = (m_M_make M x1).1 ∧ ∃ c' md', pREL (m_B_make L (F (pI x1)) x1).2.1 (fU F (pI x1) (m_B_make L (F (pI x1)) x1).2.2) (m_M_make M x1).2 c' md' := by
  obtain ⟨c1, c2, c3, c4, c5, c6⟩ := pr_cnt h
  have h4 := pI_4 x1
  have hL := h.1.1
  have hR := h.1.2.1
  have e39 : L.2.2.2.2.2.2.2.2.2 < 39 ↔ md < 39 := by
    rw [Int32.lt_iff_toInt_lt, c2, ti_39]; omega
  have eob : M.1.2.1 = 40 ↔ md = 39 := by
    rw [hR.2.1, ← pq_40, pq_inj (by omega) (by omega)]; omega
  have hstay : ∃ c' md', pREL L (fU F (pI x1) (F (pI x1))) (pZ M) c' md' := ⟨c, md, by rw [fU_id]; exact h⟩
  have hw : (0 ≤ x1.toInt ∧ x1.toInt < 4) → c < 300 → md < 39 → _ := fun g1 g2 g3 => pw_add (pREL_md h g3 (pZ M).2.2.2.2) h4 g2 (s := 0) (o := pq (md + 1)) (p := -1) (b := -1) (by
    rw [(pI_q g1).1]
    obtain ⟨t1, t2⟩ := pOK_t h h4
    rw [(pI_q g1).1] at t2
    have hi : (pq (md + 1)).toInt = md + 1 := by rw [pq_i (by omega)]; omega
    exact ⟨by rw [ti_0]; omega, fun _ => by rw [hi]; omega, fun e => absurd e (by decide), fun e => absurd e (by decide), g1, t1, t2, fun _ x hx hs e => by
      have hx2 := (hL.2.2.2.2.2.1 x hx).2.1 (by show ¬ zlS L x = 4; rw [show zlS L x = 0 from hs]; decide)
      rw [show zlO L x = pq (md + 1) from e, hi] at hx2
      omega⟩)
  refine ⟨fun g1 g2 g3 => ?_, ?_⟩
  · have hs := hw g1 (by omega) (by omega)
    rw [(pI_q g1).1] at hs
    rw [hL.2.1.2, pq_inc, hs.1]; exact hs.2.2.1
  · unfold m_B_make m_M_make
    by_cases g1 : (0 ≤ x1.toInt ∧ x1.toInt < 4)
    · rw [if_neg (fun e => mn_0.mp e g1)]
      by_cases g3 : md < 39
      · have n40 : ¬ M.1.2.1 = 40 := fun e => by have := eob.mp e; omega
        by_cases g2 : c < 300
        · have hm300 : ¬ M.1.1 = 300 := fun e => by have := (pr_300 h).mp e; omega
          have hbw : ¬ m_B_mayWrite L x1 = 0 := fun e => bw_0.mp e ⟨g1, by omega⟩
          rw [if_neg hbw, if_pos (e39.mpr g3), if_neg n40, if_neg hm300]
          have hs := hw g1 g2 g3
          rw [(pI_q g1).1] at hs
          rw [hL.2.1.2, hR.2.1, pq_inc, pq_inc, pq_dec']
          refine ⟨?_, c + 1, md + 1, ?_⟩
          · show (m_L_add _ _ _ _ _ _ _).2.2.2.2.2.2.2.2.2.2 = (m_M_add _ _ _ _ _ _).2.1.2.2.2.2.2.1 (m_M_add _ _ _ _ _ _).1.toNatClampNeg
            rw [hs.2.1]
            have e1 := hs.2.2.2.1
            have e2 := hs.2.2.2.2.1
            rw [show (0, M.2.2.2.2.2.1, M.2.2.2.2.2.2.1, M.2.2.2.2.2.2.2.1, M.2.2.2.2.2.2.2.2.1, M.2.2.2.2.2.2.2.2.2) = (pZ M).2.2.2.2 from rfl, e1, pq_n (by omega), e2]
          · show pREL _ (fU F (pI x1) (m_B_told _ _ _ (m_L_add _ _ _ _ _ _ _).1).2) _ _ _
            rw [hs.1]; exact hs.2.2.2.2.2.2
        · have hm300 : M.1.1 = 300 := (pr_300 h).mpr (by omega)
          have hbw : m_B_mayWrite L x1 = 0 := bw_0.mpr (by omega)
          rw [if_pos hbw, if_neg n40, if_pos hm300]
          exact ⟨rfl, hstay⟩
      · have n39 : ¬ L.2.2.2.2.2.2.2.2.2 < 39 := fun e => g3 (e39.mp e)
        rw [if_neg n39, if_pos (eob.mpr (by omega))]
        simp only [ite_self]
        exact ⟨trivial, hstay⟩
    · rw [if_pos (mn_0.mpr g1), if_pos (bw_0.mpr (fun hh => g1 hh.1))]
      exact ⟨rfl, hstay⟩
theorem pw_build {L : cL} {F : Nat → cP} {M : cM} {c md : Nat} (h : pREL L F M c md) {n : Nat} (hn : n < 4) : okBuild M (pq n) ∧ pREL L F (m_M_build M (pq n)) c md ∧ pBt (m_M_build M (pq n)) L c (F n).1 ∧ (m_M_build M (pq n)).1 = M.1 := by
  obtain ⟨⟨hL, hR, h01, hor, h4, hP⟩, hTO, hB⟩ := h
  obtain ⟨k1, k2, k3, k4, k5, k6⟩ := hP n hn
  obtain ⟨b1, b2, b3, b4, b5, b6⟩ := pb_build hL hR k4 k1 (hB n hn)
  refine ⟨pb_ok hL hR k4 k1 (hB n hn) h01 hor, ⟨⟨hL, by rw [b2]; exact hR, by rw [b3]; exact h01, b6 hor, by rw [b2]; exact h4, fun m hm => ?_⟩, hTO, fun m hm hb => ?_⟩, b1, b2⟩
  · unfold pR1; rw [b3]; exact hP m hm
  · rw [b5] at hb
    have := (pq_inj (a := n) (b := m) (by omega) (by omega)).mp hb
    rw [← this]; exact b1
theorem q_judged {L : cL} {F : Nat → cP} {M : cM} {c md : Nat} (h : pREL L F M c md) (x1 x2 : Int32) : ((0 ≤ x1.toInt ∧ x1.toInt < 4) → okBuild (pZ M) x1) ∧ m_B_judged L (F (pI x1)) x1 x2 = (m_M_judged M x1 x2).1 ∧ pREL L F (m_M_judged M x1 x2).2 c md := by
  obtain ⟨c1, c2, c3, c4, c5, c6⟩ := pr_cnt h
  have h4 := pI_4 x1
  obtain ⟨b1, b2, b3, b4⟩ := pw_build (pZ_R h) h4
  have eM : m_M_judged M x1 x2 = (if m_M_isNode x1 = 0 then (-1, pZ M) else if m_M_within x2 1 M.1.1 = 0 then (-1, pZ M) else ((m_M_build (pZ M) x1).2.2.2.1.2.1 x2.toNatClampNeg, m_M_build (pZ M) x1)) := rfl
  rw [eM]
  unfold m_B_judged
  refine ⟨fun g1 => by rw [(pI_q g1).1] at b1; exact b1, ?_⟩
  by_cases g1 : (0 ≤ x1.toInt ∧ x1.toInt < 4)
  · rw [(pI_q g1).1] at b2 b3
    rw [if_neg (fun e => mn_0.mp e g1), if_neg (fun e => bn_0.mp e g1)]
    by_cases g3 : (1 ≤ x2.toInt ∧ x2.toInt ≤ c)
    · have hx : x2 ∈ rws c := (rws_m c5).mpr g3
      rw [if_neg (fun e => br_0.mp e (by omega)), if_neg (fun e => mw_0.mp e (by rw [ti_1, c3]; exact g3))]
      refine ⟨?_, b2⟩
      show (F (pI x1)).1 x2.toNatClampNeg = _
      rw [(h.2.1 _ h4).1.2 x2 (by omega) (by omega)]
      exact (b3.2 x2 hx).symm
    · rw [if_pos (br_0.mpr (by omega)), if_pos (mw_0.mpr (by rw [ti_1, c3]; omega))]
      exact ⟨rfl, h⟩
  · rw [if_pos (mn_0.mpr g1), if_pos (bn_0.mpr g1)]; exact ⟨rfl, h⟩
theorem q_object {L : cL} {F : Nat → cP} {M : cM} {c md : Nat} (h : pREL L F M c md) (x1 x2 x3 : Int32) : ((0 ≤ x1.toInt ∧ x1.toInt < 4) → okBuild (pZ M) x1) ∧ m_B_object L (F (pI x1)) x1 x2 x3 = (m_M_object M x1 x2 x3).1 ∧ pREL L F (m_M_object M x1 x2 x3).2 c md := by
  obtain ⟨c1, c2, c3, c4, c5, c6⟩ := pr_cnt h
  have h4 := pI_4 x1
  obtain ⟨b1, b2, b3, b4⟩ := pw_build (pZ_R h) h4
  have hT := (h.2.1 _ h4).1.1
  have hW := (pRes_G h.1.1 (F (pI x1)).1).1
  have eM : m_M_object M x1 x2 x3 = (if (m_M_isIn (pZ M) x1 x2).1 = 0 then (-1, (m_M_isIn (pZ M) x1 x2).2) else if x3 = 0 then (m_M_parentOf (m_M_isIn (pZ M) x1 x2).2 x2, (m_M_isIn (pZ M) x1 x2).2) else if x3 = 1 then (m_M_depth (m_M_isIn (pZ M) x1 x2).2 x2, (m_M_isIn (pZ M) x1 x2).2) else if x3 = 2 then ((m_M_isIn (pZ M) x1 x2).2.2.2.1.2.2.2.1 x2.toNatClampNeg, (m_M_isIn (pZ M) x1 x2).2) else if x3 = 3 then (if m_M_top (m_M_isIn (pZ M) x1 x2).2 x2 = 0 then (0, (m_M_isIn (pZ M) x1 x2).2) else (1, (m_M_isIn (pZ M) x1 x2).2)) else if x3 = 4 then (if x2 = 0 then (0, (m_M_isIn (pZ M) x1 x2).2) else (m_M_placeOf (m_M_isIn (pZ M) x1 x2).2 x2 ((m_M_isIn (pZ M) x1 x2).2.2.2.1.2.1 x2.toNatClampNeg), (m_M_isIn (pZ M) x1 x2).2)) else if x3 = 5 then ((m_M_isIn (pZ M) x1 x2).2.2.2.1.2.2.1 x2.toNatClampNeg, (m_M_isIn (pZ M) x1 x2).2) else (-1, (m_M_isIn (pZ M) x1 x2).2)) := rfl
  have eob : ((pZ M).1.2.1 - 1).toInt = md := by
    show (M.1.2.1 - 1).toInt = md
    rw [ti_dec' (by omega)]; omega
  rw [eM]
  unfold m_B_object
  refine ⟨fun g1 => by rw [(pI_q g1).1] at b1; exact b1, ?_⟩
  by_cases g1 : (0 ≤ x1.toInt ∧ x1.toInt < 4)
  · rw [(pI_q g1).1] at b2 b3
    rw [if_neg (fun e => bn_0.mp e g1)]
    by_cases g3 : (0 ≤ x2.toInt ∧ x2.toInt ≤ md)
    · rw [if_neg (fun e => bo_0.mp e (by omega))]
      have eI : m_M_isIn (pZ M) x1 x2 = ((m_M_build (pZ M) x1).2.2.1.1 x2.toNatClampNeg, m_M_build (pZ M) x1) := by
        unfold m_M_isIn
        rw [if_neg (fun e => mn_0.mp e g1), if_neg (fun e => mw_0.mp e (by rw [ti_0, eob]; exact g3))]
      rw [eI]
      by_cases hin : pIn (pRes L c (F (pI x1)).1).1 x2
      · rw [if_neg (fun e => (pt_in0 hT (by omega) (by omega)).mp e hin), if_neg (fun e => (pm_in0 b3.1 (by omega) (by omega)).mp e hin)]
        obtain ⟨o1, o2, o3, o4, o5, o6⟩ := pq_obj hW hT b3.1 hin
        by_cases e0 : x3 = 0
        · rw [if_pos e0, if_pos e0]; exact ⟨o1, b2⟩
        · rw [if_neg e0, if_neg e0]
          by_cases e1 : x3 = 1
          · rw [if_pos e1, if_pos e1]; exact ⟨o2, b2⟩
          · rw [if_neg e1, if_neg e1]
            by_cases e2 : x3 = 2
            · rw [if_pos e2, if_pos e2]; exact ⟨o3, b2⟩
            · rw [if_neg e2, if_neg e2]
              by_cases e3 : x3 = 3
              · rw [if_pos e3, if_pos e3, o4]
                by_cases et : m_M_top (m_M_build (pZ M) x1) x2 = 0
                · rw [if_pos et, if_pos et]; exact ⟨rfl, b2⟩
                · rw [if_neg et, if_neg et]; exact ⟨rfl, b2⟩
              · rw [if_neg e3, if_neg e3]
                by_cases e4 : x3 = 4
                · rw [if_pos e4, if_pos e4, o5]
                  by_cases ex : x2 = 0
                  · rw [if_pos ex, if_pos ex]; exact ⟨rfl, b2⟩
                  · rw [if_neg ex, if_neg ex]; exact ⟨rfl, b2⟩
                · rw [if_neg e4, if_neg e4]
                  by_cases e5 : x3 = 5
                  · rw [if_pos e5, if_pos e5]; exact ⟨o6, b2⟩
                  · rw [if_neg e5, if_neg e5]; exact ⟨rfl, b2⟩
      · rw [if_pos ((pt_in0 hT (by omega) (by omega)).mpr hin), if_pos ((pm_in0 b3.1 (by omega) (by omega)).mpr hin)]
        exact ⟨rfl, b2⟩
    · have eI : m_M_isIn (pZ M) x1 x2 = (0, pZ M) := by
        unfold m_M_isIn
        rw [if_neg (fun e => mn_0.mp e g1), if_pos (mw_0.mpr (by rw [ti_0, eob]; omega))]
      rw [if_pos (bo_0.mpr (by omega)), eI, if_pos rfl]
      exact ⟨rfl, h⟩
  · have eI : m_M_isIn (pZ M) x1 x2 = (0, pZ M) := by
      unfold m_M_isIn
      rw [if_pos (mn_0.mpr g1)]
    rw [if_pos (bn_0.mpr g1), eI, if_pos rfl]; exact ⟨rfl, h⟩
theorem q_child {L : cL} {F : Nat → cP} {M : cM} {c md : Nat} (h : pREL L F M c md) (x1 x2 x3 : Int32) : ((0 ≤ x1.toInt ∧ x1.toInt < 4) → okBuild (pZ M) x1) ∧ ((0 ≤ x1.toInt ∧ x1.toInt < 4) → okBuild (m_M_build (pZ M) x1) x1) ∧ m_B_child L (F (pI x1)) x1 x2 x3 = (m_M_child M x1 x2 x3).1 ∧ pREL L F (m_M_child M x1 x2 x3).2 c md := by
  obtain ⟨c1, c2, c3, c4, c5, c6⟩ := pr_cnt h
  have h4 := pI_4 x1
  obtain ⟨b1, b2, b3, b4⟩ := pw_build (pZ_R h) h4
  obtain ⟨d1, d2, d3, d4⟩ := pw_build b2 h4
  have hT := (h.2.1 _ h4).1.1
  have hW := (pRes_G h.1.1 (F (pI x1)).1).1
  have eM : m_M_child M x1 x2 x3 = (if m_M_isNode x1 = 0 then (-1, pZ M) else if x2 = -1 then (if x2 = -1 then (if m_M_within x3 0 ((m_M_build (pZ M) x1).2.2.1.2.2.2.1 40 - 1) = 0 then (-1, m_M_build (pZ M) x1) else ((m_M_build (pZ M) x1).2.2.1.2.2.2.2 ((40 * 40) + x3).toNatClampNeg, m_M_build (pZ M) x1)) else (if m_M_within x3 0 ((m_M_build (pZ M) x1).2.2.1.2.2.2.1 x2.toNatClampNeg - 1) = 0 then (-1, m_M_build (pZ M) x1) else ((m_M_build (pZ M) x1).2.2.1.2.2.2.2 ((40 * x2) + x3).toNatClampNeg, m_M_build (pZ M) x1))) else if (m_M_isIn (pZ M) x1 x2).1 = 0 then (-1, (m_M_isIn (pZ M) x1 x2).2) else if x2 = -1 then (if m_M_within x3 0 ((m_M_build (m_M_isIn (pZ M) x1 x2).2 x1).2.2.1.2.2.2.1 40 - 1) = 0 then (-1, m_M_build (m_M_isIn (pZ M) x1 x2).2 x1) else ((m_M_build (m_M_isIn (pZ M) x1 x2).2 x1).2.2.1.2.2.2.2 ((40 * 40) + x3).toNatClampNeg, m_M_build (m_M_isIn (pZ M) x1 x2).2 x1)) else (if m_M_within x3 0 ((m_M_build (m_M_isIn (pZ M) x1 x2).2 x1).2.2.1.2.2.2.1 x2.toNatClampNeg - 1) = 0 then (-1, m_M_build (m_M_isIn (pZ M) x1 x2).2 x1) else ((m_M_build (m_M_isIn (pZ M) x1 x2).2 x1).2.2.1.2.2.2.2 ((40 * x2) + x3).toNatClampNeg, m_M_build (m_M_isIn (pZ M) x1 x2).2 x1))) := rfl
  have eob : ((pZ M).1.2.1 - 1).toInt = md := by
    show (M.1.2.1 - 1).toInt = md
    rw [ti_dec' (by omega)]; omega
  rw [eM]
  unfold m_B_child
  refine ⟨fun g1 => by rw [(pI_q g1).1] at b1; exact b1, fun g1 => by rw [(pI_q g1).1] at d1; exact d1, ?_⟩
  by_cases g1 : (0 ≤ x1.toInt ∧ x1.toInt < 4)
  · rw [(pI_q g1).1] at b2 b3 d2 d3
    rw [if_neg (fun e => mn_0.mp e g1), if_neg (fun e => bn_0.mp e g1)]
    by_cases em : x2 = -1
    · rw [if_pos em, if_pos em, if_pos em]
      have hk := pq_kid hW hT b3.1 (t := x2) (k := x3) (P := 40) (Or.inl em) (by rw [em]; decide) (by omega)
      show m_T_childAt (F (pI x1)).2.1 x2 x3 = _ ∧ _
      rw [hk, pq_40]
      by_cases ew : m_M_within x3 0 ((m_M_build (pZ M) x1).2.2.1.2.2.2.1 40 - 1) = 0
      · rw [if_pos ew, if_pos ew]; exact ⟨rfl, b2⟩
      · rw [if_neg ew, if_neg ew]; exact ⟨rfl, b2⟩
    · rw [if_neg em, if_neg em, if_neg em]
      by_cases g3 : (0 ≤ x2.toInt ∧ x2.toInt ≤ md)
      · rw [if_neg (fun e => bo_0.mp e (by omega))]
        have eI : m_M_isIn (pZ M) x1 x2 = ((m_M_build (pZ M) x1).2.2.1.1 x2.toNatClampNeg, m_M_build (pZ M) x1) := by
          unfold m_M_isIn
          rw [if_neg (fun e => mn_0.mp e g1), if_neg (fun e => mw_0.mp e (by rw [ti_0, eob]; exact g3))]
        rw [eI]
        by_cases hin : pIn (pRes L c (F (pI x1)).1).1 x2
        · rw [if_neg (fun e => (pt_in0 hT (by omega) (by omega)).mp e hin), if_neg (fun e => (pm_in0 b3.1 (by omega) (by omega)).mp e hin)]
          obtain ⟨q1, q2⟩ := pE_q (t := x2) (by omega)
          have hk := pq_kid hW hT d3.1 (t := x2) (k := x3) (P := x2.toNatClampNeg) (Or.inr (by omega)) q1 q2
          rw [pq_of g3.1] at hk
          show m_T_childAt (F (pI x1)).2.1 x2 x3 = (if m_M_within x3 0 ((m_M_build (m_M_build (pZ M) x1) x1).2.2.1.2.2.2.1 x2.toNatClampNeg - 1) = 0 then ((-1 : Int32), m_M_build (m_M_build (pZ M) x1) x1) else _).1 ∧ _
          rw [hk]
          by_cases ew : m_M_within x3 0 ((m_M_build (m_M_build (pZ M) x1) x1).2.2.1.2.2.2.1 x2.toNatClampNeg - 1) = 0
          · rw [if_pos ew, if_pos ew]; exact ⟨rfl, d2⟩
          · rw [if_neg ew, if_neg ew]; exact ⟨rfl, d2⟩
        · rw [if_pos ((pt_in0 hT (by omega) (by omega)).mpr hin), if_pos ((pm_in0 b3.1 (by omega) (by omega)).mpr hin)]
          exact ⟨rfl, b2⟩
      · have eI : m_M_isIn (pZ M) x1 x2 = (0, pZ M) := by
          unfold m_M_isIn
          rw [if_neg (fun e => mn_0.mp e g1), if_pos (mw_0.mpr (by rw [ti_0, eob]; omega))]
        rw [if_pos (bo_0.mpr (by omega)), eI, if_pos rfl]
        exact ⟨rfl, h⟩
  · rw [if_pos (mn_0.mpr g1), if_pos (bn_0.mpr g1)]; exact ⟨rfl, h⟩
theorem ti_div {x : Int32} (h : 0 ≤ x.toInt) : (x / 10).toInt = x.toInt / 10 := by
  rw [Int32.toInt_div, ti_10, Int.tdiv_eq_ediv_of_nonneg h]
  have := ti_hi x
  apply Int.bmod_eq_of_le <;> omega
theorem ti_mod {x : Int32} (h : 0 ≤ x.toInt) : (x - x / 10 * 10).toInt = x.toInt % 10 := by
  have h1 := ti_div h
  have h2 := ti_hi x
  have h3 : (x / 10 * 10).toInt = x.toInt / 10 * 10 := by
    rw [ti_mul (by rw [h1, ti_10]; omega) (by rw [h1, ti_10]; omega), h1, ti_10]
  rw [ti_sub (by rw [h3]; omega) (by rw [h3]; omega), h3]; omega
theorem q_total {L : cL} {F : Nat → cP} {M : cM} {c md : Nat} (h : pREL L F M c md) (x1 : Int32) : (10 ≤ x1.toInt → (0 ≤ (x1 - x1 / 10 * 10).toInt ∧ (x1 - x1 / 10 * 10).toInt < 4) → okBuild (pZ M) (x1 - x1 / 10 * 10)) ∧ m_B_total L (F (pI (x1 - x1 / 10 * 10))) x1 = (m_M_total M x1).1 ∧ pREL L F (m_M_total M x1).2 c md := by
  obtain ⟨c1, c2, c3, c4, c5, c6⟩ := pr_cnt h
  have hL := h.1.1
  have hR := h.1.2.1
  have h4 := pI_4 (x1 - x1 / 10 * 10)
  obtain ⟨b1, b2, b3, b4⟩ := pw_build (pZ_R h) h4
  obtain ⟨k1, k2, k3, k4, k5, k6⟩ := h.1.2.2.2.2.2 _ h4
  have hT := (h.2.1 _ h4).1.1
  have hW := (pRes_G h.1.1 (F (pI (x1 - x1 / 10 * 10))).1).1
  have eM : m_M_total M x1 = (if x1 = 0 then (M.1.1, pZ M) else if x1 = 1 then (M.1.2.1, pZ M) else if x1 < 10 then (-1, pZ M) else if 43 < x1 then (-1, pZ M) else if (x1 - x1 / 10 * 10) ≤ 3 then (if x1 / 10 = 1 then (m_M_knownRows (pZ M) (x1 - x1 / 10 * 10), pZ M) else if x1 / 10 = 2 then (M.2.1.2.1 (x1 - x1 / 10 * 10).toNatClampNeg, pZ M) else if x1 / 10 = 3 then ((m_M_thereOf (pZ M) (x1 - x1 / 10 * 10)).1, (m_M_thereOf (pZ M) (x1 - x1 / 10 * 10)).2) else ((m_M_binOf (pZ M) (x1 - x1 / 10 * 10)).1, (m_M_binOf (pZ M) (x1 - x1 / 10 * 10)).2)) else (-1, pZ M)) := rfl
  rw [eM]
  unfold m_B_total
  refine ⟨fun _ g1 => by rw [(pI_q g1).1] at b1; exact b1, ?_⟩
  by_cases e0 : x1 = 0
  · rw [if_pos e0, if_pos e0]; exact ⟨by rw [hL.2.1.1, hR.1], h⟩
  · rw [if_neg e0, if_neg e0]
    by_cases e1 : x1 = 1
    · rw [if_pos e1, if_pos e1]; exact ⟨by rw [hL.2.1.2, hR.2.1, pq_inc], h⟩
    · rw [if_neg e1, if_neg e1]
      by_cases e10 : x1 < 10
      · rw [if_pos e10, if_pos e10]; exact ⟨rfl, h⟩
      · rw [if_neg e10, if_neg e10]
        have g10 : 10 ≤ x1.toInt := by
          have := mt (@Int32.lt_iff_toInt_lt x1 10).mpr e10
          rw [ti_10] at this; omega
        have hd := ti_div (x := x1) (by omega)
        have hm := ti_mod (x := x1) (by omega)
        have e43 : 43 < x1 ↔ 43 < x1.toInt := by rw [Int32.lt_iff_toInt_lt, ti_43]
        have hq : ∀ (k : Int32), x1 / 10 = k ↔ x1.toInt / 10 = k.toInt := fun k => by
          rw [← hd]; exact ⟨fun e => by rw [e], pi_ext⟩
        by_cases gv : (0 ≤ (x1 - x1 / 10 * 10).toInt ∧ (x1 - x1 / 10 * 10).toInt < 4)
        · rw [if_neg (fun e => bn_0.mp e gv)]
          have hq1 := hq 1
          have hq2 := hq 2
          have hq3 := hq 3
          have hq4 := hq 4
          rw [ti_1] at hq1; rw [ti_2] at hq2; rw [ti_3] at hq3; rw [ti_4] at hq4
          by_cases g43 : 43 < x1
          · rw [if_pos g43]
            have := e43.mp g43
            rw [hm] at gv
            rw [if_neg (fun e => by have := hq1.mp e; omega), if_neg (fun e => by have := hq2.mp e; omega), if_neg (fun e => by have := hq3.mp e; omega), if_neg (fun e => by have := hq4.mp e; omega)]
            exact ⟨rfl, h⟩
          · rw [if_neg g43]
            have g43' := mt e43.mpr g43
            have hle : (x1 - x1 / 10 * 10) ≤ 3 := by
              rw [Int32.le_iff_toInt_le, ti_3]; omega
            rw [if_pos hle]
            rw [(pI_q gv).1] at b2 b3 k4
            by_cases q1 : x1 / 10 = 1
            · rw [if_pos q1, if_pos q1]
              refine ⟨?_, h⟩
              show (F (pI (x1 - x1 / 10 * 10))).2.2.1 = _
              rw [k2.1]
              exact (pv_kr' (M := pZ M) hL hR k4).symm
            · rw [if_neg q1, if_neg q1]
              by_cases q2 : x1 / 10 = 2
              · rw [if_pos q2, if_pos q2]
                refine ⟨?_, h⟩
                show (F (pI (x1 - x1 / 10 * 10))).2.2.2.1 = M.2.1.2.1 (x1 - x1 / 10 * 10).toNatClampNeg
                rw [← k5, (pI_q gv).2]
              · rw [if_neg q2, if_neg q2]
                by_cases q3 : x1 / 10 = 3
                · rw [if_pos q3, if_pos q3]
                  have et : m_M_thereOf (pZ M) (x1 - x1 / 10 * 10) = (pq ((pRes L c (F (pI (x1 - x1 / 10 * 10))).1).1.1.length + 1), m_M_build (pZ M) (x1 - x1 / 10 * 10)) := by
                    unfold m_M_thereOf; exact pm_th' hW b3.1
                  rw [et]
                  refine ⟨?_, b2⟩
                  show (F (pI (x1 - x1 / 10 * 10))).2.1.2.2.2.2 + 1 = _
                  rw [hT.2.1, pq_inc]
                · rw [if_neg q3, if_neg q3]
                  have q4 : x1 / 10 = 4 := by
                    rw [hq4]
                    have n1 := mt hq1.mpr q1
                    have n2 := mt hq2.mpr q2
                    have n3 := mt hq3.mpr q3
                    omega
                  rw [if_pos q4]
                  refine ⟨?_, b2⟩
                  show m_T_childCount (F (pI (x1 - x1 / 10 * 10))).2.1 (-1) = (m_M_build (pZ M) (x1 - x1 / 10 * 10)).2.2.1.2.2.2.1 40
                  rw [pt_cc' hW hT, pKd_kL hW (Or.inl rfl) (show pE (-1) = pq 40 from rfl)]
                  exact (b3.1.2.2.2.2 40 (by omega)).1.symm
        · rw [if_pos (bn_0.mpr gv)]
          have : ¬ (x1 - x1 / 10 * 10) ≤ 3 := fun e => by
            rw [Int32.le_iff_toInt_le, ti_3] at e
            exact gv (by omega)
          rw [if_neg this]
          simp only [ite_self]
          exact ⟨trivial, h⟩
