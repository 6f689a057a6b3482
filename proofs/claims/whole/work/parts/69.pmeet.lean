/-! meet -/
def pmt (L : cL) : List Int32 → Nat → cP → Nat × cP
  | [], k, S => (k, S)
  | y :: ys, k, S => if S.1 y.toNatClampNeg = 0 then pmt L ys (k + 1) (m_P_learn L S y) else pmt L ys k S
def mtM (n : Int32) : List Int32 → Nat → cM → Nat × cM
  | [], k, S => (k, S)
  | y :: ys, k, S => if m_M_knowsRow S n y = 0 then mtM n ys (k + 1) (m_M_learn S n y) else mtM n ys k S
theorem pe_34 {L : cL} {c md : Nat} (hL : pLog L c md) {O : cP} : ∀ (m i n k : Nat) (S : cP), i + m = c → m < n → k ≤ i → l_B_meet_34 L O n (pq k) (pq i) S = (pq (pmt L ((seg (zlOrd L) i m).filter (kb O.1)) k S).1, if (pmt L ((seg (zlOrd L) i m).filter (kb O.1)) k S).1 = 0 then (pmt L ((seg (zlOrd L) i m).filter (kb O.1)) k S).2 else m_P_judgeAll L (pmt L ((seg (zlOrd L) i m).filter (kb O.1)) k S).2)
  | m, i, 0, k, S, _, h, _ => by omega
  | 0, i, n + 1, k, S, h1, h2, h3 => by
    have hc := hL.1.1
    have e : (seg (zlOrd L) i 0).filter (kb O.1) = [] := rfl
    rw [l_B_meet_34, hL.2.1.1, if_pos ((pq_le (by omega) (by omega)).mpr (by omega)), e]
    have hz := pq_le (a := k) (b := 0) (by omega) (by omega)
    by_cases hk : k = 0
    · rw [if_pos (by rw [← pq_0]; exact hz.mpr (by omega))]
      show _ = (pq k, if k = 0 then S else _)
      rw [if_pos hk]
    · rw [if_neg (fun h => hk (by have := hz.mp h; omega))]
      show _ = (pq k, if k = 0 then S else _)
      rw [if_neg hk]; rfl
  | m + 1, i, n + 1, k, S, h1, h2, h3 => by
    have hc := hL.1.1
    rw [l_B_meet_34, hL.2.1.1, if_neg (fun h => by have := (pq_le (by omega) (by omega)).mp h; omega), pq_n (by omega), pq_inc, pq_inc, seg_s]
    by_cases ho : O.1 (zlOrd L i).toNatClampNeg = 0
    · have hk' : ¬ kb O.1 (zlOrd L i) = true := fun h => kb_t.mp h ho
      rw [if_pos (knows_0.mpr ho), List.filter_cons_of_neg hk']
      exact pe_34 hL m (i + 1) n k S (by omega) (by omega) (by omega)
    · have hk' : kb O.1 (zlOrd L i) = true := kb_t.mpr ho
      rw [if_neg (fun h => ho (knows_0.mp h)), List.filter_cons_of_pos hk']
      by_cases hs : S.1 (zlOrd L i).toNatClampNeg = 0
      · rw [if_pos (knows_0.mpr hs)]
        have e : pmt L (zlOrd L i :: (seg (zlOrd L) (i + 1) m).filter (kb O.1)) k S = pmt L ((seg (zlOrd L) (i + 1) m).filter (kb O.1)) (k + 1) (m_P_learn L S (zlOrd L i)) := by
          show (if S.1 (zlOrd L i).toNatClampNeg = 0 then _ else _) = _
          rw [if_pos hs]
        rw [e]
        exact pe_34 hL m (i + 1) n (k + 1) _ (by omega) (by omega) (by omega)
      · rw [if_neg (fun h => hs (knows_0.mp h))]
        have e : pmt L (zlOrd L i :: (seg (zlOrd L) (i + 1) m).filter (kb O.1)) k S = pmt L ((seg (zlOrd L) (i + 1) m).filter (kb O.1)) k S := by
          show (if S.1 (zlOrd L i).toNatClampNeg = 0 then _ else _) = _
          rw [if_neg hs]
        rw [e]
        exact pe_34 hL m (i + 1) n k S (by omega) (by omega) (by omega)
theorem learn_X {M : cM} {x1 x2 : Int32} : (m_M_learn M x1 x2).2.2.2.2 = M.2.2.2.2 := by rw [learnM_eq]
theorem pe_72 {x1 : Int32} {g : cA} {K : Nat} (hK : K ≤ 300) : ∀ (m i n k : Nat) (S : cM), S.2.2.2.2.2.1 = pq K → S.2.2.2.2.2.2.1 = g → i + m = K → m < n → l_M_meet_72 x1 n (pq k) (pq i) S = (pq (mtM x1 (seg g i m) k S).1, ((mtM x1 (seg g i m) k S).2.1, (mtM x1 (seg g i m) k S).2.2.1, (mtM x1 (seg g i m) k S).2.2.2.1, (-1, (mtM x1 (seg g i m) k S).2.2.2.2.1.2.1, (mtM x1 (seg g i m) k S).2.2.2.2.1.2.2.1, (mtM x1 (seg g i m) k S).2.2.2.2.1.2.2.2), (mtM x1 (seg g i m) k S).2.2.2.2.2))
  | m, i, 0, k, S, _, _, _, h => by omega
  | 0, i, n + 1, k, S, e1, e2, h1, h2 => by
    rw [l_M_meet_72, e1, if_pos ((pq_le (by omega) (by omega)).mpr (by omega))]; rfl
  | m + 1, i, n + 1, k, S, e1, e2, h1, h2 => by
    rw [l_M_meet_72, e1, if_neg (fun h => by have := (pq_le (by omega) (by omega)).mp h; omega), pq_n (by omega), pq_inc, pq_inc, seg_s, e2]
    by_cases hs : m_M_knowsRow S x1 (g i) = 0
    · rw [if_pos hs]
      have e : mtM x1 (g i :: seg g (i + 1) m) k S = mtM x1 (seg g (i + 1) m) (k + 1) (m_M_learn S x1 (g i)) := by
        show (if m_M_knowsRow S x1 (g i) = 0 then _ else _) = _
        rw [if_pos hs]
      rw [e]
      exact pe_72 hK m (i + 1) n (k + 1) _ (by rw [learn_X]; exact e1) (by rw [learn_X]; exact e2) (by omega) (by omega)
    · rw [if_neg hs]
      have e : mtM x1 (g i :: seg g (i + 1) m) k S = mtM x1 (seg g (i + 1) m) k S := by
        show (if m_M_knowsRow S x1 (g i) = 0 then _ else _) = _
        rw [if_neg hs]
      rw [e]
      exact pe_72 hK m (i + 1) n k S e1 e2 (by omega) (by omega)
theorem fU_fU {F : Nat → cP} {n : Nat} {P Q : cP} : fU (fU F n P) n Q = fU F n Q := by
  funext i
  by_cases e : i = n
  · rw [e, fU_s, fU_s]
  · rw [fU_n e, fU_n e, fU_n e]
theorem pe_both {L : cL} {F : Nat → cP} {c md : Nat} {n : Nat} (hn : n < 4) : ∀ (l : List Int32) (k : Nat) (S : cP) (T : cM), (∀ y ∈ l, y ∈ rws c) → pR0 L (fU F n S) T c md → (pmt L l k S).1 = (mtM (pq n) l k T).1 ∧ pR0 L (fU F n (pmt L l k S).2) (mtM (pq n) l k T).2 c md
  | [], k, S, T, _, h => ⟨rfl, h⟩
  | y :: ys, k, S, T, hm, h => by
    have hy := hm y List.mem_cons_self
    have hc := h.1.1.1
    have hy1 := (rws_m hc).mp hy
    obtain ⟨k1, k2, k3, k4, k5, k6⟩ := h.2.2.2.2.2 n hn
    rw [fU_s] at k4
    have hk := mk_0 k4 (x := y) (by omega) (by omega)
    show (if S.1 y.toNatClampNeg = 0 then pmt L ys (k + 1) (m_P_learn L S y) else pmt L ys k S).1 = (if m_M_knowsRow T (pq n) y = 0 then mtM (pq n) ys (k + 1) (m_M_learn T (pq n) y) else mtM (pq n) ys k T).1 ∧ pR0 L (fU F n (if S.1 y.toNatClampNeg = 0 then pmt L ys (k + 1) (m_P_learn L S y) else pmt L ys k S).2) (if m_M_knowsRow T (pq n) y = 0 then mtM (pq n) ys (k + 1) (m_M_learn T (pq n) y) else mtM (pq n) ys k T).2 c md
    by_cases hs : S.1 y.toNatClampNeg = 0
    · rw [if_pos hs, if_pos (hk.mpr hs)]
      have := (pw_learn h hn hy (by rw [fU_s]; exact hs)).1
      rw [fU_s, fU_fU] at this
      exact pe_both hn ys (k + 1) _ _ (fun z hz => hm z (List.mem_cons_of_mem _ hz)) this
    · rw [if_neg hs, if_neg (fun e => hs (hk.mp e))]
      exact pe_both hn ys k S T (fun z hz => hm z (List.mem_cons_of_mem _ hz)) h
theorem pmt_mono {L : cL} : ∀ (l : List Int32) (k : Nat) (S : cP), (∀ j, (pmt L l k S).2.1 j = 0 → S.1 j = 0) ∧ k ≤ (pmt L l k S).1 ∧ ((pmt L l k S).1 = k → (pmt L l k S).2 = S)
  | [], k, S => ⟨fun _ h => h, Nat.le_refl _, fun _ => rfl⟩
  | y :: ys, k, S => by
    show (∀ j, (if S.1 y.toNatClampNeg = 0 then pmt L ys (k + 1) (m_P_learn L S y) else pmt L ys k S).2.1 j = 0 → S.1 j = 0) ∧ k ≤ (if S.1 y.toNatClampNeg = 0 then pmt L ys (k + 1) (m_P_learn L S y) else pmt L ys k S).1 ∧ ((if S.1 y.toNatClampNeg = 0 then pmt L ys (k + 1) (m_P_learn L S y) else pmt L ys k S).1 = k → (if S.1 y.toNatClampNeg = 0 then pmt L ys (k + 1) (m_P_learn L S y) else pmt L ys k S).2 = S)
    by_cases hs : S.1 y.toNatClampNeg = 0
    · rw [if_pos hs]
      obtain ⟨a, b, d⟩ := pmt_mono (L := L) ys (k + 1) (m_P_learn L S y)
      refine ⟨fun j hj => ?_, by omega, fun e => by omega⟩
      have := a j hj
      rw [learn_eq] at this
      have this : upd S.1 y.toNatClampNeg 1 j = 0 := this
      by_cases e : j = y.toNatClampNeg
      · rw [e]; exact hs
      · rw [pk_un e] at this; exact this
    · rw [if_neg hs]; exact pmt_mono ys k S
theorem pe_41 {M : cM} {x1 x2 w : Int32} {hh : cH} {K : Nat} (hK : K ≤ 300) (ho : hh.2.2.1 = pq K) : ∀ (m i n : Nat) (fo : cA), i + m = K → m < n → (∀ j, j < i → fo j = hh.2.2.2 j) → ∀ j, j < K → (l_M_meet_41 M x1 x2 hh w n (pq i) fo).2 j = hh.2.2.2 j
  | m, i, 0, fo, _, h, _ => by omega
  | 0, i, n + 1, fo, h1, h2, h => fun j hj => by
    rw [l_M_meet_41, ho, if_pos ((pq_le (by omega) (by omega)).mpr (by omega))]
    exact h j (by omega)
  | m + 1, i, n + 1, fo, h1, h2, h => fun j hj => by
    rw [l_M_meet_41, ho, if_neg (fun h => by have := (pq_le (by omega) (by omega)).mp h; omega), pq_inc, pq_n (by omega)]
    refine pe_41 hK ho m (i + 1) n _ (by omega) (by omega) (fun q hq => ?_) j hj
    by_cases e : q = i
    · rw [e, pk_us]
    · rw [pk_un e]; exact h q (by omega)
theorem mm_ok {L : cL} {F : Nat → cP} {M : cM} {c md : Nat} (h : pREL L F M c md) (x1 x2 : Int32) : mmOK M x1 x2 := by
  obtain ⟨c1, c2, c3, c4, c5, c6⟩ := pr_cnt h
  obtain ⟨⟨hL, hR, h01, hor, h4, hP⟩, hTO, hB⟩ := h
  have hrg := fo_rg' (M := pZ M) (x1 := x2) (by show M.1.1.toInt ≤ 300; omega) hor
  have ho : (m_M_findOrder (pZ M) x2).2.2.1 = pq (m_M_findOrder (pZ M) x2).2.2.1.toNatClampNeg := (pq_of hrg.1.1).symm
  have hon := pn_i hrg.1.1
  have hcopy := pe_41 (M := M) (x1 := x1) (x2 := x2) (w := (m_M_findOrder (pZ M) x2).2.2.1) (hh := m_M_findOrder (pZ M) x2) (K := (m_M_findOrder (pZ M) x2).2.2.1.toNatClampNeg) (by omega) ho _ 0 301 M.2.2.2.2.2.2.1 (Nat.zero_add _) (by omega) (fun j hj => by omega)
  refine ⟨fun _ S => S.1 = M.1 ∧ (∀ j, j < 1204 → S.2.1.1 j = 0 ∨ S.2.1.1 j = 1) ∧ S.2.2.2.2.2.1 = (m_M_findOrder (pZ M) x2).2.2.1 ∧ S.2.2.2.2.2.2.1 = (l_M_meet_41 M x1 x2 (m_M_findOrder (pZ M) x2) (m_M_findOrder (pZ M) x2).2.2.1 301 (pq 0) M.2.2.2.2.2.2.1).2, ⟨rfl, h01, rfl, rfl⟩, ?_⟩
  rintro x S h0 ⟨e1, e2, e3, e4⟩
  refine ⟨e3, fun hx => ?_⟩
  have e3' : S.2.2.2.2.2.1 = (m_M_findOrder (pZ M) x2).2.2.1 := e3
  have hx' : x.toInt < (m_M_findOrder (pZ M) x2).2.2.1.toInt := by rw [← e3']; exact hx
  have hxn := pn_i h0
  have er : S.2.2.2.2.2.2.1 x.toNatClampNeg = (m_M_findOrder (pZ M) x2).2.2.2 x.toNatClampNeg := by
    rw [e4]; exact hcopy x.toNatClampNeg (by omega)
  have hr := hrg.2 x.toNatClampNeg (by omega)
  rw [er]
  have hrn := pn_i hr.1
  refine ⟨by rw [e1]; omega, e2, hr, fun g => ?_, fun g => ?_, fun g => ⟨e1, e2, e3, e4⟩⟩
  · rw [e1] at g ⊢
    exact h4 _ (by omega) g
  · rw [learnM_eq]
    exact ⟨e1, upd01' e2, e3, e4⟩
theorem m_ok {L : cL} {F : Nat → cP} {M : cM} {c md : Nat} (h : pREL L F M c md) {n : Nat} (hn : n < 4) (O : cP) : mOK L (F n) O := by
  obtain ⟨⟨hL, hR, h01, hor, h4, hP⟩, hTO, hB⟩ := h
  have hc := hL.1.1
  obtain ⟨k1, k2, k3, k4, k5, k6⟩ := hP n hn
  refine ⟨fun x S => ∃ i : Nat, x = pq i ∧ i ≤ c ∧ pKn c S.1 ∧ okT S.2.1, ⟨0, rfl, by omega, k1, k3⟩, ?_, ?_⟩
  · rintro x S h0 h1 ⟨i, rfl, hi, g1, g2⟩
    rw [hL.2.1.1, pq_i (by omega), pq_i (by omega)] at h1
    rw [pq_n (by omega), pq_inc]
    obtain ⟨a1, -, -⟩ := pOrd_at hL (i := i) (m := c - i - 1) (by omega) S.1
    have ha := (rws_m hc).mp a1
    refine ⟨pLog_okR hL a1, fun _ _ => ⟨i + 1, rfl, by omega, ?_, ?_⟩, fun _ => ⟨i + 1, rfl, by omega, g1, g2⟩⟩
    · rw [learn_eq]; exact pKn_upd hc g1 ha
    · rw [learn_eq]; exact g2
  · rintro x S h1 ⟨i, rfl, hi, g1, g2⟩
    exact pj_ok hL g2 g1
theorem q_meet {L : cL} {F : Nat → cP} {M : cM} {c md : Nat} (h : pREL L F M c md) (x1 x2 : Int32) (n o : Nat) (hn : n < 4) (ho : o < 4) (hn1 : (0 ≤ x1.toInt ∧ x1.toInt < 4) → pq n = x1) (ho1 : (0 ≤ x2.toInt ∧ x2.toInt < 4) → x1 ≠ x2 → pq o = x2) :
    (m_B_meet L (F n) (F o) x1 x2).1 = (m_M_meet M x1 x2).1 ∧ pREL L (fU F n (m_B_meet L (F n) (F o) x1 x2).2) (m_M_meet M x1 x2).2 c md := by
  obtain ⟨c1, c2, c3, c4, c5, c6⟩ := pr_cnt h
  have hstay : pREL L (fU F n (F n)) (pZ M) c md := by rw [fU_id]; exact h
  have eM : m_M_meet M x1 x2 = (if m_M_isNode x1 = 0 then (-1, pZ M) else if m_M_isNode x2 = 0 then (-1, pZ M) else if x1 = x2 then (-1, pZ M) else l_M_meet_72 x1 301 0 0 (mm_M2 M x1 x2)) := rfl
  rw [eM]
  unfold m_B_meet
  by_cases g1 : (0 ≤ x1.toInt ∧ x1.toInt < 4)
  · rw [if_neg (fun e => mn_0.mp e g1), if_neg (fun e => bn_0.mp e g1)]
    by_cases g2 : (0 ≤ x2.toInt ∧ x2.toInt < 4)
    · rw [if_neg (fun e => mn_0.mp e g2), if_neg (fun e => bn_0.mp e g2)]
      by_cases e : x1 = x2
      · rw [if_pos e, if_pos e]; exact ⟨rfl, hstay⟩
      · rw [if_neg e, if_neg e]
        have en := hn1 g1
        have eo := ho1 g2 e
        have hno : o ≠ n := fun e2 => e (by rw [← en, ← eo, e2])
        obtain ⟨⟨hL, hR, h01, hor, h4, hP⟩, hTO, hB⟩ := h
        obtain ⟨k1, k2, k3, k4, k5, k6⟩ := hP o ho
        have hrg := fo_rg' (M := pZ M) (x1 := x2) (by show M.1.1.toInt ≤ 300; omega) hor
        rw [eo] at k4
        obtain ⟨g, eg, hK, hg⟩ := pv_fo' (M := pZ M) hL hR k4
        have hcopy := pe_41 (M := M) (x1 := x1) (x2 := x2) (w := (m_M_findOrder (pZ M) x2).2.2.1) (hh := m_M_findOrder (pZ M) x2) (K := ((seg (zlOrd L) 0 c).filter (kb (F o).1)).length) hK (by rw [eg]) _ 0 301 M.2.2.2.2.2.2.1 (Nat.zero_add _) (by omega) (fun j hj => by omega)
        have hT0 : pR0 L (fU F n (F n)) (mm_M2 M x1 x2) c md := by
          rw [fU_id]
          exact ⟨hL, hR, h01, hrg.2, h4, hP⟩
        have h34 := pe_34 hL (O := F o) c 0 301 0 (F n) (by omega) (by omega) (by omega)
        have h72 := pe_72 (x1 := x1) (g := (l_M_meet_41 M x1 x2 (m_M_findOrder (pZ M) x2) (m_M_findOrder (pZ M) x2).2.2.1 301 (pq 0) M.2.2.2.2.2.2.1).2) hK ((seg (zlOrd L) 0 c).filter (kb (F o).1)).length 0 301 0 (mm_M2 M x1 x2) (by show (m_M_findOrder (pZ M) x2).2.2.1 = _; rw [eg]) rfl (by omega) (by omega)
        have hseg : seg (l_M_meet_41 M x1 x2 (m_M_findOrder (pZ M) x2) (m_M_findOrder (pZ M) x2).2.2.1 301 (pq 0) M.2.2.2.2.2.2.1).2 0 ((seg (zlOrd L) 0 c).filter (kb (F o).1)).length = (seg (zlOrd L) 0 c).filter (kb (F o).1) := by
          rw [← hg, seg_len]
          refine seg_congr fun j _ hj => ?_
          rw [hcopy j (by omega), eg]
        rw [hseg] at h72
        have hboth := pe_both (F := F) hn ((seg (zlOrd L) 0 c).filter (kb (F o).1)) 0 (F n) (mm_M2 M x1 x2) (fun y hy => hL.2.2.2.1.mem_iff.mp (List.mem_filter.mp hy).1) hT0
        rw [en] at hboth
        have hmono := pmt_mono (L := L) ((seg (zlOrd L) 0 c).filter (kb (F o).1)) 0 (F n)
        show (l_B_meet_34 L (F o) 301 (pq 0) (pq 0) (F n)).1 = (l_M_meet_72 x1 301 (pq 0) (pq 0) (mm_M2 M x1 x2)).1 ∧ pREL L (fU F n (l_B_meet_34 L (F o) 301 (pq 0) (pq 0) (F n)).2) (l_M_meet_72 x1 301 (pq 0) (pq 0) (mm_M2 M x1 x2)).2 c md
        rw [h34, h72]
        obtain ⟨B, hB'⟩ : ∃ B, B = pmt L ((seg (zlOrd L) 0 c).filter (kb (F o).1)) 0 (F n) := ⟨_, rfl⟩
        obtain ⟨D, hD'⟩ : ∃ D, D = mtM x1 ((seg (zlOrd L) 0 c).filter (kb (F o).1)) 0 (mm_M2 M x1 x2) := ⟨_, rfl⟩
        rw [← hB', ← hD'] at hboth ⊢
        rw [← hB'] at hmono
        refine ⟨by show pq B.1 = pq D.1; rw [hboth.1], ?_⟩
        obtain ⟨hL2, hR2, h012, hor2, h42, hP2⟩ := hboth.2
        have hPn := hP2 n hn
        rw [fU_s] at hPn
        have hfin : ∃ Q : cP, (if B.1 = 0 then B.2 else m_P_judgeAll L B.2) = Q ∧ pTr L c Q ∧ (∀ j, Q.1 j = 0 ↔ B.2.1 j = 0) ∧ Q.2.2 = B.2.2.2 ∧ okT Q.2.1 := by
          by_cases hz : B.1 = 0
          · rw [if_pos hz]
            have := hmono.2.2 hz
            exact ⟨B.2, rfl, by rw [this]; exact (hTO n hn).1, fun _ => Iff.rfl, rfl, hPn.2.2.1⟩
          · rw [if_neg hz]
            obtain ⟨a1, a2, a3⟩ := pl_all hL hPn.2.2.1 hPn.1 hPn.2.1
            exact ⟨_, rfl, a1.2.1, a2, a3, a1.2.1.1.1⟩
        obtain ⟨Q, eQ, q1, q2, q3, q4⟩ := hfin
        show pREL L (fU F n (if B.1 = 0 then B.2 else m_P_judgeAll L B.2)) _ c md
        rw [eQ]
        refine ⟨⟨hL2, hR2, h012, hor2, h42, fun m hm => ?_⟩, fun m hm => ?_, fun m hm hb => absurd hb (pm1_ne hm)⟩
        · by_cases em : m = n
          · subst em; rw [fU_s]; exact pR1_same hPn q2 q3 q4
          · have := hP2 m hm
            rw [fU_n em] at this ⊢; exact this
        · by_cases em : m = n
          · subst em; rw [fU_s]
            refine ⟨q1, fun x hx hN => ?_⟩
            have hk := kb_t.mp ((hTO m hm).2 x hx hN)
            exact kb_t.mpr (fun e0 => hk (hmono.1 _ ((q2 _).mp e0)))
          · rw [fU_n em]; exact hTO m hm
    · rw [if_pos (mn_0.mpr g2), if_pos (bn_0.mpr g2)]; exact ⟨rfl, hstay⟩
  · rw [if_pos (mn_0.mpr g1), if_pos (bn_0.mpr g1)]; exact ⟨rfl, hstay⟩
