/-! the other calls -/
theorem q_remove {L : cL} {F : Nat → cP} {M : cM} {c md : Nat} (h : pREL L F M c md) (x1 x2 x3 : Int32) :
    ((0 ≤ x1.toInt ∧ x1.toInt < 4) → L.2.2.2.2.2.2.2.2.1.toInt < 300 → (1 ≤ x2.toInt ∧ x2.toInt ≤ L.2.2.2.2.2.2.2.2.2.toInt) → ∀ s : Int32, s = 2 ∨ s = 3 → okTold (m_L_add L s x1 ((F (pI x1)).2.2.2.1 + 1) x2 (-1) (-1)).2 (F (pI x1)) (m_L_add L s x1 ((F (pI x1)).2.2.2.1 + 1) x2 (-1) (-1)).1)
    ∧ (m_B_remove L (F (pI x1)) x1 x2 x3).1 = (m_M_remove M x1 x2 x3).1 ∧ ∃ c' md', pREL (m_B_remove L (F (pI x1)) x1 x2 x3).2.1 (fU F (pI x1) (m_B_remove L (F (pI x1)) x1 x2 x3).2.2) (m_M_remove M x1 x2 x3).2 c' md' := by
  obtain ⟨c1, c2, c3, c4, c5, c6⟩ := pr_cnt h
  have h4 := pI_4 x1
  have eM : m_M_remove M x1 x2 x3 = (if m_M_isNode x1 = 0 then (-1, pZ M) else if m_M_within x2 1 (M.1.2.1 - 1) = 0 then (-1, pZ M) else if M.1.1 = 300 then (-1, pZ M) else if x3 = 0 then ((m_M_add (pZ M) x1 2 x2 (-1) (-1)).1, (m_M_add (pZ M) x1 2 x2 (-1) (-1)).2) else ((m_M_add (pZ M) x1 3 x2 (-1) (-1)).1, (m_M_add (pZ M) x1 3 x2 (-1) (-1)).2)) := rfl
  have eob : (M.1.2.1 - 1).toInt = md := by rw [ti_dec' (by omega)]; omega
  have hstay : ∃ c' md', pREL L (fU F (pI x1) (F (pI x1))) (pZ M) c' md' := ⟨c, md, by rw [fU_id]; exact h⟩
  have hadd : ∀ s : Int32, s = 2 ∨ s = 3 → (0 ≤ x1.toInt ∧ x1.toInt < 4) → c < 300 → (1 ≤ x2.toInt ∧ x2.toInt ≤ md) → pOK L c md s x1 ((F (pI x1)).2.2.2.1 + 1) x2 (-1) := fun s hs g1 g2 g3 => by
    obtain ⟨t1, t2⟩ := pOK_t h h4
    rw [(pI_q g1).1] at t2
    have s0 : ¬ s = 0 := by rcases hs with h | h <;> rw [h] <;> decide
    have s1 : ¬ s = 1 := by rcases hs with h | h <;> rw [h] <;> decide
    have s4 : ¬ s = 4 := by rcases hs with h | h <;> rw [h] <;> decide
    have sr : 0 ≤ s.toInt ∧ s.toInt ≤ 4 := by
      rcases hs with h | h <;> rw [h]
      · rw [ti_2]; omega
      · rw [ti_3]; omega
    exact ⟨sr, fun _ => g3, fun e => absurd e s1, fun e => absurd e s4, g1, t1, t2, fun e => absurd e s0⟩
  have hw : ∀ s : Int32, s = 2 ∨ s = 3 → (0 ≤ x1.toInt ∧ x1.toInt < 4) → c < 300 → (1 ≤ x2.toInt ∧ x2.toInt ≤ md) → _ := fun s hs g1 g2 g3 => pw_add (pZ_R h) h4 g2 (s := s) (o := x2) (p := -1) (b := -1) (by rw [(pI_q g1).1]; exact hadd s hs g1 g2 g3)
  refine ⟨fun g1 g2 g3 s hs => ?_, ?_⟩
  · have := hw s hs g1 (by omega) (by omega)
    rw [(pI_q g1).1] at this
    rw [this.1]; exact this.2.2.1
  · rw [eM]
    unfold m_B_remove
    by_cases g1 : (0 ≤ x1.toInt ∧ x1.toInt < 4)
    · rw [if_neg (fun e => mn_0.mp e g1)]
      by_cases g2 : c < 300
      · rw [if_neg (fun e => bw_0.mp e ⟨g1, by omega⟩)]
        have hm300 : ¬ M.1.1 = 300 := fun e => by have := (pr_300 h).mp e; omega
        by_cases g3 : (1 ≤ x2.toInt ∧ x2.toInt ≤ md)
        · rw [if_neg (fun e => bm_0.mp e (by omega)), if_neg (fun e => mw_0.mp e (by rw [ti_1, eob]; exact g3)), if_neg hm300]
          by_cases e3 : x3 = 0
          · rw [if_pos e3, if_pos e3]
            have hs := hw 2 (Or.inl rfl) g1 g2 g3
            rw [(pI_q g1).1] at hs
            refine ⟨?_, c + 1, md, ?_⟩
            · show (m_B_told _ _ _ _).1 = _
              rw [hs.1, hs.2.2.2.2.2.1]; exact hs.2.2.2.1.symm
            · show pREL _ (fU F (pI x1) (m_B_told _ _ _ (m_L_add L 2 x1 ((F (pI x1)).2.2.2.1 + 1) x2 (-1) (-1)).1).2) _ _ _
              rw [hs.1]; exact hs.2.2.2.2.2.2
          · rw [if_neg e3, if_neg e3]
            have hs := hw 3 (Or.inr rfl) g1 g2 g3
            rw [(pI_q g1).1] at hs
            refine ⟨?_, c + 1, md, ?_⟩
            · show (m_B_told _ _ _ _).1 = _
              rw [hs.1, hs.2.2.2.2.2.1]; exact hs.2.2.2.1.symm
            · show pREL _ (fU F (pI x1) (m_B_told _ _ _ (m_L_add L 3 x1 ((F (pI x1)).2.2.2.1 + 1) x2 (-1) (-1)).1).2) _ _ _
              rw [hs.1]; exact hs.2.2.2.2.2.2
        · rw [if_pos (bm_0.mpr (by omega)), if_pos (mw_0.mpr (by rw [ti_1, eob]; omega))]
          exact ⟨rfl, hstay⟩
      · have hm300 : M.1.1 = 300 := (pr_300 h).mpr (by omega)
        rw [if_pos (bw_0.mpr (by omega))]
        rw [if_pos hm300]
        simp only [ite_self]
        exact ⟨trivial, hstay⟩
    · rw [if_pos (mn_0.mpr g1), if_pos (bw_0.mpr (fun hh => g1 hh.1))]
      exact ⟨rfl, hstay⟩
theorem bu_0 {L : cL} {c md : Nat} (hL : pLog L c md) {x1 x2 : Int32} (hx : x2 ∈ rws c) : m_L_mayBeUndoneBy L x1 x2 = 0 ↔ ¬ (zlN L x2 = x1 ∧ ¬ zlS L x2 = 0 ∧ ¬ zlS L x2 = 4 ∧ zlV L x2 = 0) := by
  have hR := (hL.2.2.2.2.2.1 x2 hx).1
  unfold m_L_mayBeUndoneBy
  have a := @Int32.lt_iff_toInt_lt (zlS L x2) 1
  have b := @Int32.lt_iff_toInt_lt 3 (zlS L x2)
  rw [ti_1] at a
  rw [ti_3] at b
  have z0 : zlS L x2 = 0 ↔ (zlS L x2).toInt = 0 := ⟨fun e => by rw [e, ti_0], fun e => pi_ext (by rw [e, ti_0])⟩
  have z4 : zlS L x2 = 4 ↔ (zlS L x2).toInt = 4 := ⟨fun e => by rw [e, ti_4], fun e => pi_ext (by rw [e, ti_4])⟩
  by_cases h1 : zlN L x2 = x1
  · rw [if_pos h1]
    by_cases h2 : zlS L x2 < 1
    · rw [if_pos h2]
      have := a.mp h2
      exact ⟨fun _ h => h.2.1 (z0.mpr (by omega)), fun _ => rfl⟩
    · rw [if_neg h2]
      have h2' := mt a.mpr h2
      by_cases h3 : 3 < zlS L x2
      · rw [if_pos h3]
        have := b.mp h3
        exact ⟨fun _ h => h.2.2.1 (z4.mpr (by omega)), fun _ => rfl⟩
      · rw [if_neg h3]
        have h3' := mt b.mpr h3
        by_cases h5 : zlV L x2 = 0
        · rw [if_pos h5]
          exact ⟨fun e => absurd e (by decide), fun h => absurd ⟨h1, fun e => by have := z0.mp e; omega, fun e => by have := z4.mp e; omega, h5⟩ h⟩
        · rw [if_neg h5]; exact ⟨fun _ h => h5 h.2.2.2, fun _ => rfl⟩
  · rw [if_neg h1]; exact ⟨fun _ h => h1 h.1, fun _ => rfl⟩
theorem q_undo {L : cL} {F : Nat → cP} {M : cM} {c md : Nat} (h : pREL L F M c md) (x1 x2 : Int32) :
    ((0 ≤ x1.toInt ∧ x1.toInt < 4) → L.2.2.2.2.2.2.2.2.1.toInt < 300 → (1 ≤ x2.toInt ∧ x2.toInt ≤ L.2.2.2.2.2.2.2.2.1.toInt) → (¬ m_L_mayBeUndoneBy L x1 x2 = 0) → okTold (m_L_add L 4 x1 ((F (pI x1)).2.2.2.1 + 1) x2 (-1) (-1)).2 (F (pI x1)) (m_L_add L 4 x1 ((F (pI x1)).2.2.2.1 + 1) x2 (-1) (-1)).1)
    ∧ (m_B_undo L (F (pI x1)) x1 x2).1 = (m_M_undo M x1 x2).1 ∧ ∃ c' md', pREL (m_B_undo L (F (pI x1)) x1 x2).2.1 (fU F (pI x1) (m_B_undo L (F (pI x1)) x1 x2).2.2) (m_M_undo M x1 x2).2 c' md' := by
  obtain ⟨c1, c2, c3, c4, c5, c6⟩ := pr_cnt h
  have h4 := pI_4 x1
  have hL := h.1.1
  have hR := h.1.2.1
  have eM : m_M_undo M x1 x2 = (if m_M_isNode x1 = 0 then (-1, pZ M) else if m_M_within x2 1 M.1.1 = 0 then (-1, pZ M) else if M.1.2.2.2.1 x2.toNatClampNeg = x1 then (if M.1.2.2.1 x2.toNatClampNeg = 0 then (-1, pZ M) else if M.1.2.2.1 x2.toNatClampNeg = 4 then (-1, pZ M) else if m_M_isUndone (pZ M) x1 x2 = 0 then (if M.1.1 = 300 then (-1, pZ M) else ((m_M_add (pZ M) x1 4 x2 (-1) (-1)).1, (m_M_add (pZ M) x1 4 x2 (-1) (-1)).2)) else (-1, pZ M)) else (-1, pZ M)) := rfl
  have hstay : ∃ c' md', pREL L (fU F (pI x1) (F (pI x1))) (pZ M) c' md' := ⟨c, md, by rw [fU_id]; exact h⟩
  have hw : (0 ≤ x1.toInt ∧ x1.toInt < 4) → c < 300 → (1 ≤ x2.toInt ∧ x2.toInt ≤ c) → (zlN L x2 = x1 ∧ ¬ zlS L x2 = 0 ∧ ¬ zlS L x2 = 4 ∧ zlV L x2 = 0) → _ := fun g1 g2 g3 g5 => pw_add (pZ_R h) h4 g2 (s := 4) (o := x2) (p := -1) (b := -1) (by
    rw [(pI_q g1).1]
    obtain ⟨t1, t2⟩ := pOK_t h h4
    rw [(pI_q g1).1] at t2
    exact ⟨by rw [ti_4]; omega, fun e => absurd rfl e, fun e => absurd e (by decide), fun _ => ⟨g3, g5.2.2.1, g5.1, g5.2.2.2⟩, g1, t1, t2, fun e => absurd e (by decide)⟩)
  refine ⟨fun g1 g2 g3 g5 => ?_, ?_⟩
  · have hx : x2 ∈ rws c := (rws_m c5).mpr (by omega)
    have := hw g1 (by omega) (by omega) (Classical.not_not.mp (mt (bu_0 hL hx).mpr g5))
    rw [(pI_q g1).1] at this
    rw [this.1]; exact this.2.2.1
  · rw [eM]
    unfold m_B_undo
    by_cases g1 : (0 ≤ x1.toInt ∧ x1.toInt < 4)
    · rw [if_neg (fun e => mn_0.mp e g1)]
      by_cases g3 : (1 ≤ x2.toInt ∧ x2.toInt ≤ c)
      · have hx : x2 ∈ rws c := (rws_m c5).mpr g3
        obtain ⟨y1, y2, y3, y4, y5, y6⟩ := hR.2.2 x2 hx
        rw [if_neg (fun e => br_0.mp e (by omega)), if_neg (fun e => mw_0.mp e (by rw [ti_1, c3]; exact g3)), y1, y2]
        by_cases e1 : zlN L x2 = x1
        · rw [if_pos e1]
          by_cases e2 : zlS L x2 = 0
          · rw [if_pos e2, if_pos ((bu_0 hL hx).mpr (fun hh => hh.2.1 e2))]
            simp only [ite_self]
            exact ⟨trivial, hstay⟩
          · rw [if_neg e2]
            by_cases e3 : zlS L x2 = 4
            · rw [if_pos e3, if_pos ((bu_0 hL hx).mpr (fun hh => hh.2.2.1 e3))]
              simp only [ite_self]
              exact ⟨trivial, hstay⟩
            · rw [if_neg e3]
              obtain ⟨k1, k2, k3, k4, k5, k6⟩ := h.1.2.2.2.2.2 (pI x1) h4
              have hun := pv_un' (M := pZ M) hL hR k4 k1 hx
              rw [(pI_q g1).1] at hun
              have hpu : pu L (F (pI x1)).1 x2 ↔ ¬ zlV L x2 = 0 := by
                rcases (hL.2.2.2.2.2.1 x2 hx).2.2.2.2.2.2 with e | ⟨q1, q2, q3⟩
                · refine ⟨fun hh => ?_, fun hh => absurd e hh⟩
                  unfold pu at hh
                  rw [e] at hh
                  exact absurd k1.1 hh
                · refine ⟨fun _ e => by rw [e, ti_0] at q1; omega, fun _ => ?_⟩
                  have hv : zlV L x2 ∈ rws c := (rws_m c5).mpr q1
                  have := ((hL.2.2.2.2.2.1 _ hv).2.2.2.1 q2).2.2.1
                  rw [q3, e1] at this
                  have hk := (h.2.1 (pI x1) h4).2 _ hv (by rw [← this, (pI_q g1).1])
                  exact kb_t.mp hk
              rcases hun with ⟨hu, e5⟩ | ⟨hu, e5⟩
              · have hv := hpu.mp hu
                rw [e5, if_neg (show ¬ (1 : Int32) = 0 by decide), if_pos ((bu_0 hL hx).mpr (fun hh => hv hh.2.2.2))]
                simp only [ite_self]
                exact ⟨trivial, hstay⟩
              · have hv : zlV L x2 = 0 := Classical.not_not.mp (fun hh => hu (hpu.mpr hh))
                rw [e5, if_pos (show (0 : Int32) = 0 from rfl), if_neg (fun e => (bu_0 hL hx).mp e ⟨e1, e2, e3, hv⟩)]
                by_cases g2 : c < 300
                · have hm300 : ¬ M.1.1 = 300 := fun e => by have := (pr_300 h).mp e; omega
                  rw [if_neg hm300, if_neg (fun e => bw_0.mp e ⟨g1, by omega⟩)]
                  have hs := hw g1 g2 g3 ⟨e1, e2, e3, hv⟩
                  rw [(pI_q g1).1] at hs
                  refine ⟨?_, c + 1, md, ?_⟩
                  · show (m_B_told _ _ _ _).1 = _
                    rw [hs.1, hs.2.2.2.2.2.1]; exact hs.2.2.2.1.symm
                  · show pREL _ (fU F (pI x1) (m_B_told _ _ _ (m_L_add L 4 x1 ((F (pI x1)).2.2.2.1 + 1) x2 (-1) (-1)).1).2) _ _ _
                    rw [hs.1]; exact hs.2.2.2.2.2.2
                · have hm300 : M.1.1 = 300 := (pr_300 h).mpr (by omega)
                  rw [if_pos (bw_0.mpr (by omega)), if_pos hm300]
                  exact ⟨rfl, hstay⟩
        · rw [if_neg e1, if_pos ((bu_0 hL hx).mpr (fun hh => e1 hh.1))]
          simp only [ite_self]
          exact ⟨trivial, hstay⟩
      · rw [if_pos (br_0.mpr (by omega)), if_pos (mw_0.mpr (by rw [ti_1, c3]; omega))]
        simp only [ite_self]
        exact ⟨trivial, hstay⟩
    · rw [if_pos (mn_0.mpr g1), if_pos (bw_0.mpr (fun hh => g1 hh.1))]
      exact ⟨rfl, hstay⟩
theorem q_see {L : cL} {F : Nat → cP} {M : cM} {c md : Nat} (h : pREL L F M c md) (x1 x2 : Int32) :
    ((0 ≤ x1.toInt ∧ x1.toInt < 4) → (1 ≤ x2.toInt ∧ x2.toInt ≤ L.2.2.2.2.2.2.2.2.1.toInt) → okTold L (F (pI x1)) x2)
    ∧ ((0 ≤ x1.toInt ∧ x1.toInt < 4) → 1 ≤ x2.toInt → x2.toInt ≤ M.1.1.toInt → (M.1.2.2.1 x2.toNatClampNeg) = 4 → 0 ≤ (M.1.2.2.2.2.2.1 x2.toNatClampNeg).toInt ∧ (M.1.2.2.2.2.2.1 x2.toNatClampNeg).toInt < 301)
    ∧ (m_B_see L (F (pI x1)) x1 x2).1 = (m_M_see M x1 x2).1 ∧ ∃ c' md', pREL L (fU F (pI x1) (m_B_see L (F (pI x1)) x1 x2).2) (m_M_see M x1 x2).2 c' md' := by
  obtain ⟨c1, c2, c3, c4, c5, c6⟩ := pr_cnt h
  have h4 := pI_4 x1
  have hL := h.1.1
  obtain ⟨k1, k2, k3, k4, k5, k6⟩ := h.1.2.2.2.2.2 (pI x1) h4
  have eM : m_M_see M x1 x2 = (if m_M_isNode x1 = 0 then (-1, pZ M) else if m_M_within x2 1 M.1.1 = 0 then (-1, pZ M) else if m_M_knowsRow (pZ M) x1 x2 = 0 then ((m_M_learn (pZ M) x1 x2).2.1.2.2 x1.toNatClampNeg, m_M_learn (pZ M) x1 x2) else (-1, pZ M)) := rfl
  have hstay : ∃ c' md', pREL L (fU F (pI x1) (F (pI x1))) (pZ M) c' md' := ⟨c, md, by rw [fU_id]; exact h⟩
  refine ⟨fun g1 g3 => pl_ok' hL ((rws_m c5).mpr (by omega)) k1 k3, fun _ g2 g3 g5 => h.1.2.2.2.2.1 _ (by have := pn_i (x := x2) (by omega); omega) g5, ?_⟩
  rw [eM]
  unfold m_B_see
  by_cases g1 : (0 ≤ x1.toInt ∧ x1.toInt < 4)
  · rw [if_neg (fun e => mn_0.mp e g1), if_neg (fun e => bn_0.mp e g1)]
    by_cases g3 : (1 ≤ x2.toInt ∧ x2.toInt ≤ c)
    · have hx : x2 ∈ rws c := (rws_m c5).mpr g3
      rw [if_neg (fun e => br_0.mp e (by omega)), if_neg (fun e => mw_0.mp e (by rw [ti_1, c3]; exact g3))]
      have hk := mk_0 (M := pZ M) k4 (x := x2) (by omega) (by omega)
      rw [(pI_q g1).1] at hk
      by_cases e : (F (pI x1)).1 x2.toNatClampNeg = 0
      · rw [if_pos (knows_0.mpr e), if_pos (hk.mpr e)]
        obtain ⟨t1, t2, t3⟩ := pw_told (M := pZ M) h.1 h4 hx e (fun m hm => (h.2.1 m hm).1) (fun m hm x hx _ hN => (h.2.1 m hm).2 x hx hN) x1
        rw [(pI_q g1).1, (pI_q g1).2] at t3
        rw [(pI_q g1).1] at t1
        rw [← (pI_q g1).2] at t3
        refine ⟨?_, c, md, t1⟩
        rw [← (pI_q g1).2]; exact t3
      · rw [if_neg (fun h => e (knows_0.mp h)), if_neg (fun h => e (hk.mp h))]
        exact ⟨rfl, hstay⟩
    · rw [if_pos (br_0.mpr (by omega)), if_pos (mw_0.mpr (by rw [ti_1, c3]; omega))]
      exact ⟨rfl, hstay⟩
  · rw [if_pos (mn_0.mpr g1), if_pos (bn_0.mpr g1)]
    exact ⟨rfl, hstay⟩
theorem q_cost {L : cL} {F : Nat → cP} {M : cM} {c md : Nat} (h : pREL L F M c md) (x1 : Int32) : m_B_cost L (F (pI x1)) x1 = (m_M_cost M x1).1 ∧ pREL L F (m_M_cost M x1).2 c md := by
  have h4 := pI_4 x1
  obtain ⟨k1, k2, k3, k4, k5, k6⟩ := h.1.2.2.2.2.2 (pI x1) h4
  have eM : m_M_cost M x1 = (if m_M_isNode x1 = 0 then (-1, pZ M) else (M.2.1.2.2 x1.toNatClampNeg, pZ M)) := rfl
  rw [eM]
  unfold m_B_cost
  by_cases g1 : (0 ≤ x1.toInt ∧ x1.toInt < 4)
  · rw [if_neg (fun e => mn_0.mp e g1), if_neg (fun e => bn_0.mp e g1)]
    refine ⟨?_, h⟩
    rw [← k6]; show _ = M.2.1.2.2 x1.toNatClampNeg; rw [(pI_q g1).2]
  · rw [if_pos (mn_0.mpr g1), if_pos (bn_0.mpr g1)]; exact ⟨rfl, h⟩
theorem q_row {L : cL} {F : Nat → cP} {M : cM} {c md : Nat} (h : pREL L F M c md) (x1 x2 : Int32) : m_B_row L x1 x2 = (m_M_row M x1 x2).1 ∧ pREL L F (m_M_row M x1 x2).2 c md := by
  obtain ⟨c1, c2, c3, c4, c5, c6⟩ := pr_cnt h
  have eM : m_M_row M x1 x2 = (if m_M_within x1 1 M.1.1 = 0 then (-1, pZ M) else if x2 = 0 then (M.1.2.2.1 x1.toNatClampNeg, pZ M) else if x2 = 1 then (M.1.2.2.2.1 x1.toNatClampNeg, pZ M) else if x2 = 2 then (M.1.2.2.2.2.1 x1.toNatClampNeg, pZ M) else if x2 = 3 then (M.1.2.2.2.2.2.1 x1.toNatClampNeg, pZ M) else if x2 = 4 then (M.1.2.2.2.2.2.2.1 x1.toNatClampNeg, pZ M) else if x2 = 5 then (M.1.2.2.2.2.2.2.2 x1.toNatClampNeg, pZ M) else (-1, pZ M)) := rfl
  rw [eM]
  unfold m_B_row
  by_cases g3 : (1 ≤ x1.toInt ∧ x1.toInt ≤ c)
  · have hx : x1 ∈ rws c := (rws_m c5).mpr g3
    obtain ⟨y1, y2, y3, y4, y5, y6⟩ := h.1.2.1.2.2 x1 hx
    rw [if_neg (fun e => br_0.mp e (by omega)), if_neg (fun e => mw_0.mp e (by rw [ti_1, c3]; exact g3)), y1, y2, y3, y4, y5, y6]
    by_cases e0 : x2 = 0
    · rw [if_pos e0, if_pos e0]; exact ⟨rfl, h⟩
    · rw [if_neg e0, if_neg e0]
      by_cases e1 : x2 = 1
      · rw [if_pos e1, if_pos e1]; exact ⟨rfl, h⟩
      · rw [if_neg e1, if_neg e1]
        by_cases e2 : x2 = 2
        · rw [if_pos e2, if_pos e2]; exact ⟨rfl, h⟩
        · rw [if_neg e2, if_neg e2]
          by_cases e3 : x2 = 3
          · rw [if_pos e3, if_pos e3]; exact ⟨rfl, h⟩
          · rw [if_neg e3, if_neg e3]
            by_cases e4 : x2 = 4
            · rw [if_pos e4, if_pos e4]; exact ⟨rfl, h⟩
            · rw [if_neg e4, if_neg e4]
              by_cases e5 : x2 = 5
              · rw [if_pos e5, if_pos e5]; exact ⟨rfl, h⟩
              · rw [if_neg e5, if_neg e5]; exact ⟨rfl, h⟩
  · rw [if_pos (br_0.mpr (by omega)), if_pos (mw_0.mpr (by rw [ti_1, c3]; omega))]
    exact ⟨rfl, h⟩
