/-! one of the people learns a row, and is told one -/
def pCost (L : cL) (c : Nat) (f : cA) (r : Int32) : Int32 := if f r.toNatClampNeg = 0 then 0 else pq ((rws c).filter (fun x => pQ L f x && (m_L_isAhead L x r == 0))).length
def pTr (L : cL) (c : Nat) (P : cP) : Prop := rT P.2.1 (pRes L c P.1).1 ∧ ∀ x : Int32, 0 ≤ x.toInt → x.toInt ≤ 300 → P.1 x.toNatClampNeg = (pRes L c P.1).2 x
def pCt (L : cL) (c : Nat) (P : cP) : Prop := P.2.2.1 = pq ((seg (zlOrd L) 0 c).filter (kb P.1)).length ∧ ∃ t : Nat, P.2.2.2.1 = pq t ∧ t ≤ c ∧ ∀ x ∈ rws c, kb P.1 x = true → (zlT L x).toInt ≤ t
def pPer (L : cL) (c : Nat) (P : cP) : Prop := pKn c P.1 ∧ pTr L c P ∧ pCt L c P
def pOwn (L : cL) (c : Nat) (n : Int32) (P : cP) : Prop := ∀ x ∈ rws c, zlN L x = n → kb P.1 x = true
theorem pc_cost {L : cL} {c md : Nat} (hL : pLog L c md) {P : cP} {r : Int32} (hr : r ∈ rws c) : m_P_countFrom L P r = pCost L c P.1 r := by
  obtain ⟨a, b, h1, h2⟩ := pc_from' hL (P := P) hr
  rw [h2]
  unfold pCost
  by_cases h : P.1 r.toNatClampNeg = 0
  · rw [if_pos h, if_pos h]
  · rw [if_neg h, if_neg h, pc_rows hL h1 (fun x => m_L_isAhead L x r == 0) (fun x hx => by
      show (m_L_isAhead L x r == 0) = true ↔ _
      rw [beq_iff_eq]; exact ahead_0)]
theorem learn_eq {L : cL} {P : cP} {x : Int32} : m_P_learn L P x = (upd P.1 x.toNatClampNeg 1, P.2.1, P.2.2.1 + 1, (if P.2.2.2.1 < zlT L x then zlT L x else P.2.2.2.1), m_P_countFrom L (upd P.1 x.toNatClampNeg 1, P.2.1, P.2.2.1 + 1, (if P.2.2.2.1 < zlT L x then zlT L x else P.2.2.2.1), P.2.2.2.2) (if zlS L x = 4 then zlO L x else x)) := by
  unfold m_P_learn
  by_cases h : zlS L x = 4
  · rw [if_pos h, if_pos h]
  · rw [if_neg h, if_neg h]
theorem pFrom_r {L : cL} {c md : Nat} (hL : pLog L c md) {r : Int32} (hr : r ∈ rws c) : (if zlS L r = 4 then zlO L r else r) ∈ rws c := by
  split
  · rename_i h
    exact (rws_m hL.1.1).mpr ((hL.2.2.2.2.2.1 r hr).2.2.2.1 h).1
  · exact hr
theorem kb_upd {f : cA} {r x : Int32} (hr : 0 ≤ r.toInt) (hx : 0 ≤ x.toInt) : kb (upd f r.toNatClampNeg 1) x = (kb f x || (x == r)) := by
  unfold kb
  by_cases e : x = r
  · rw [e, pk_us]; simp
  · rw [pk_un (fun e2 => e (pn_inj hx hr e2))]; simp [e]
theorem kb_len {L : cL} {c md : Nat} (hL : pLog L c md) {f : cA} {r : Int32} (hr : r ∈ rws c) (hf : f r.toNatClampNeg = 0) : ((seg (zlOrd L) 0 c).filter (kb (upd f r.toNatClampNeg 1))).length = ((seg (zlOrd L) 0 c).filter (kb f)).length + 1 := by
  have hr1 := (rws_m hL.1.1).mp hr
  have hm : r ∈ seg (zlOrd L) 0 c := (pLog_m hL).mpr hr1
  obtain ⟨a, b, hab⟩ := List.append_of_mem hm
  have hnd := pLog_d hL
  rw [hab, List.nodup_append] at hnd
  have hra : r ∉ a := fun h => hnd.2.2 r h r List.mem_cons_self rfl
  have hrb : r ∉ b := (List.nodup_cons.mp hnd.2.1).1
  have hin : ∀ x, x ∈ a ∨ x ∈ b → 0 ≤ x.toInt := fun x hx => by
    have : x ∈ seg (zlOrd L) 0 c := by
      rw [hab]
      rcases hx with h | h
      · exact List.mem_append_left _ h
      · exact List.mem_append_right _ (List.mem_cons_of_mem _ h)
    have := (pLog_m hL).mp this
    omega
  have key : ∀ x, x ∈ a ∨ x ∈ b → kb (upd f r.toNatClampNeg 1) x = kb f x := fun x hx => by
    rw [kb_upd (by omega) (hin x hx)]
    have : x ≠ r := by
      rintro rfl
      rcases hx with h | h
      · exact hra h
      · exact hrb h
    simp [this]
  have k1 : kb (upd f r.toNatClampNeg 1) r = true := by rw [kb_upd (by omega) (by omega)]; simp
  have k2 : ¬ kb f r = true := fun h => kb_t.mp h hf
  rw [hab, List.filter_append, List.filter_append, List.filter_cons_of_pos k1, List.filter_cons_of_neg k2, List.filter_congr fun x hx => key x (Or.inl hx), List.filter_congr (l := b) fun x hx => key x (Or.inr hx)]
  simp only [List.length_append, List.length_cons]
  omega
theorem pKn_upd {c : Nat} (hc : c ≤ 300) {f : cA} {r : Int32} (h : pKn c f) (hr : 1 ≤ r.toInt ∧ r.toInt ≤ c) : pKn c (upd f r.toNatClampNeg 1) := by
  have hi := pn_i (x := r) (by omega)
  exact ⟨by rw [pk_un (by omega)]; exact h.1, fun j h1 h2 => by rw [pk_un (by omega)]; exact h.2 j h1 h2⟩
theorem pl_learn {L : cL} {c md : Nat} (hL : pLog L c md) {P : cP} {r : Int32} (hr : r ∈ rws c) (hf : P.1 r.toNatClampNeg = 0) (hK : pKn c P.1) (hC : pCt L c P) : pKn c (m_P_learn L P r).1 ∧ pCt L c (m_P_learn L P r) ∧ (m_P_learn L P r).1 = upd P.1 r.toNatClampNeg 1 ∧ (m_P_learn L P r).2.1 = P.2.1 ∧ (m_P_learn L P r).2.2.2.1 = (if P.2.2.2.1 < zlT L r then zlT L r else P.2.2.2.1) ∧ (m_P_learn L P r).2.2.2.2 = pCost L c (upd P.1 r.toNatClampNeg 1) (if zlS L r = 4 then zlO L r else r) := by
  have hc := hL.1.1
  have hr1 := (rws_m hc).mp hr
  have hR := hL.2.2.2.2.2.1 r hr
  rw [learn_eq]
  refine ⟨pKn_upd hc hK hr1, ⟨?_, ?_⟩, rfl, rfl, rfl, pc_cost hL (pFrom_r hL hr)⟩
  · show P.2.2.1 + 1 = pq ((seg (zlOrd L) 0 c).filter (kb (upd P.1 r.toNatClampNeg 1))).length
    rw [kb_len hL hr hf, hC.1, pq_inc]
  · obtain ⟨t, h1, h2, h3⟩ := hC.2
    have hkey : ∀ (s : Nat), t ≤ s → (zlT L r).toInt ≤ s → ∀ x ∈ rws c, kb (upd P.1 r.toNatClampNeg 1) x = true → (zlT L x).toInt ≤ s := fun s a b x hx hk => by
      have hx1 := (rws_m hc).mp hx
      rw [kb_upd (by omega) (by omega), Bool.or_eq_true, beq_iff_eq] at hk
      rcases hk with hk | hk
      · have := h3 x hx hk; omega
      · rw [hk]; exact b
    show ∃ s : Nat, (if P.2.2.2.1 < zlT L r then zlT L r else P.2.2.2.1) = pq s ∧ s ≤ c ∧ ∀ x ∈ rws c, kb (upd P.1 r.toNatClampNeg 1) x = true → (zlT L x).toInt ≤ s
    rw [h1]
    have ht := hR.2.2.2.2.2.1
    have hti := pn_i (x := zlT L r) (by omega)
    have hlt := @Int32.lt_iff_toInt_lt (pq t) (zlT L r)
    rw [pq_i (by omega)] at hlt
    by_cases h : pq t < zlT L r
    · rw [if_pos h]
      have := hlt.mp h
      exact ⟨(zlT L r).toNatClampNeg, (pq_of (by omega)).symm, by omega, hkey _ (by omega) (by omega)⟩
    · rw [if_neg h]
      have := mt hlt.mpr h
      exact ⟨t, rfl, h2, hkey t (Nat.le_refl _) (by omega)⟩
theorem pl_ok {L : cL} {c md : Nat} (hL : pLog L c md) {P : cP} {r : Int32} (hr : r ∈ rws c) (hf : P.1 r.toNatClampNeg = 0) (hK : pKn c P.1) (hC : pCt L c P) (hT : okT P.2.1) : okTold L P r := by
  obtain ⟨a1, a2, a3, a4, a5, a6⟩ := pl_learn hL hr hf hK hC
  exact ⟨hT, pLog_okR hL hr, pLog_okL hL, pj_ok hL (by rw [a4]; exact hT) a1⟩
theorem pTr_congr {L : cL} {c : Nat} {P : cP} {f : cA} (h : ∀ j, P.1 j = 0 ↔ f j = 0) (h1 : rT P.2.1 (pRes L c f).1) (h2 : ∀ x : Int32, 0 ≤ x.toInt → x.toInt ≤ 300 → P.1 x.toNatClampNeg = (pRes L c f).2 x) : pTr L c P := by
  unfold pTr
  rw [pRes_congr h]; exact ⟨h1, h2⟩
theorem kb_congr {f g : cA} (h : ∀ j, f j = 0 ↔ g j = 0) : kb f = kb g := by
  funext x
  have hx := h x.toNatClampNeg
  unfold kb
  by_cases e : f x.toNatClampNeg = 0
  · rw [e, hx.mp e]
  · have e2 : ¬ g x.toNatClampNeg = 0 := fun h => e (hx.mpr h)
    rw [beq_eq_false_iff_ne.mpr e, beq_eq_false_iff_ne.mpr e2]
theorem pCt_congr {L : cL} {c : Nat} {P Q : cP} (h : ∀ j, P.1 j = 0 ↔ Q.1 j = 0) (h2 : P.2.2 = Q.2.2) (hC : pCt L c Q) : pCt L c P := by
  unfold pCt
  rw [h2, kb_congr h]; exact hC
theorem pKn_congr {c : Nat} {f g : cA} (h : ∀ j, f j = 0 ↔ g j = 0) (hg : pKn c g) : pKn c f := ⟨(h 0).mpr hg.1, fun j h1 h2 => (h j).mpr (hg.2 j h1 h2)⟩
theorem pl_all {L : cL} {c md : Nat} (hL : pLog L c md) {P : cP} (hT : okT P.2.1) (hK : pKn c P.1) (hC : pCt L c P) : pPer L c (m_P_judgeAll L P) ∧ (∀ j, (m_P_judgeAll L P).1 j = 0 ↔ P.1 j = 0) ∧ (m_P_judgeAll L P).2.2 = P.2.2 := by
  have hJ := pj_fin hL hT hK
  refine ⟨⟨pKn_congr hJ.2.2.2.1 hK, pTr_congr hJ.2.2.2.1 hJ.2.1 (fun x h0 h1 => hJ.2.2.2.2 x h0 h1 List.not_mem_nil), pCt_congr hJ.2.2.2.1 hJ.2.2.1 hC⟩, hJ.2.2.2.1, hJ.2.2.1⟩
theorem pl_told {L : cL} {c md : Nat} (hL : pLog L c md) {P : cP} {r : Int32} (x1 : Int32) (hr : r ∈ rws c) (hf : P.1 r.toNatClampNeg = 0) (hP : pPer L c P) : (m_B_told L P x1 r).1 = r ∧ pPer L c (m_B_told L P x1 r).2 ∧ (∀ j, (m_B_told L P x1 r).2.1 j = 0 ↔ upd P.1 r.toNatClampNeg 1 j = 0) ∧ (m_B_told L P x1 r).2.2.2 = (m_P_learn L P r).2.2 := by
  obtain ⟨a1, a2, a3, a4, a5, a6⟩ := pl_learn hL hr hf hP.1 hP.2.2
  have hok : okT (m_P_learn L P r).2.1 := by rw [a4]; exact hP.2.1.1.1
  obtain ⟨b1, b2, b3⟩ := pl_all hL hok a1 a2
  have all : pPer L c (m_P_judgeAll L (m_P_learn L P r)) ∧ (∀ j, (m_P_judgeAll L (m_P_learn L P r)).1 j = 0 ↔ upd P.1 r.toNatClampNeg 1 j = 0) ∧ (m_P_judgeAll L (m_P_learn L P r)).2.2 = (m_P_learn L P r).2.2 := ⟨b1, fun j => by rw [b2 j, a3], b3⟩
  unfold m_B_told
  by_cases h1 : (m_P_learn L P r).2.2.2.2 = 1
  · rw [if_pos h1]
    by_cases h4 : zlS L r = 4
    · rw [if_pos h4]; exact ⟨rfl, all⟩
    · rw [if_neg h4]
      obtain ⟨a, b, hab, hcf⟩ := pc_from' hL (P := m_P_learn L P r) hr
      have hkr : kb (m_P_learn L P r).1 r = true := kb_t.mpr (by rw [a3, pk_us]; decide)
      have hone : ((r :: b).filter (pQ L (m_P_learn L P r).1)).length = 1 := by
        have e1 : m_P_countFrom L (m_P_learn L P r) r = pCost L c (upd P.1 r.toNatClampNeg 1) r := by rw [pc_cost hL hr, a3]
        rw [if_neg h4, h1] at a6
        rw [hcf, ← a6, if_neg (kb_t.mp hkr)] at e1
        have hlen : ((r :: b).filter (pQ L (m_P_learn L P r).1)).length ≤ 300 := by
          have x1 := List.length_filter_le (pQ L (m_P_learn L P r).1) (r :: b)
          have x2 : (r :: b).length ≤ (seg (zlOrd L) 0 c).length := by rw [hab]; simp
          rw [seg_len] at x2
          have := hL.1.1
          omega
        exact (pq_inj (b := 1) (by omega) (by omega)).mp e1
      have hqr : pQ L (m_P_learn L P r).1 r = true := by
        unfold pQ; rw [hkr, Bool.true_and]; simp [h4]
      rw [List.filter_cons_of_pos hqr, List.length_cons] at hone
      have hnil : b.filter (pQ L (m_P_learn L P r).1) = [] := List.eq_nil_of_length_eq_zero (by omega)
      have hb : ∀ x ∈ b, kb P.1 x = true → zlS L x = 4 := fun x hx hk => by
        by_cases e : zlS L x = 4
        · exact e
        · exfalso
          have hx0 : 0 ≤ x.toInt := by
            have : x ∈ seg (zlOrd L) 0 c := by rw [hab]; exact List.mem_append_right _ (List.mem_cons_of_mem _ hx)
            have := (pLog_m hL).mp this
            omega
          have hr1 := (rws_m hL.1.1).mp hr
          refine (List.filter_eq_nil_iff.mp hnil) x hx ?_
          unfold pQ
          rw [a3, kb_upd (by omega) hx0, hk]; simp [e]
      obtain ⟨c1, c2, c3, c4⟩ := pj_inc hL (P := m_P_learn L P r) hr h4 hf a3 (by rw [a4]; exact hP.2.1.1) hP.2.1.2 hab hb
      exact ⟨rfl, ⟨pKn_congr c2 a1, pTr_congr c2 c3 c4, pCt_congr c2 c1 a2⟩, fun j => by rw [c2 j, a3], c1⟩
  · rw [if_neg h1]; exact ⟨rfl, all⟩
/-- a row that one does not know changes nothing for him -/
theorem pRes_new {L : cL} {c md : Nat} (hL : pLog L c md) (hc : c < 300) {s nd t o p b : Int32} (hO : pOK L c md s nd t o p) {f' : cA} {m : Int32} {a e : List Int32} (h1 : seg (zlOrd L) 0 c = a ++ e) (h2 : seg f' 0 (c + 1) = a ++ pq (c + 1) :: e) {f : cA} (hf : pKn c f) : pRes (pNew L c s nd t o p b f' m) (c + 1) f = pRes L c f ∧ (seg f' 0 (c + 1)).filter (kb f) = (seg (zlOrd L) 0 c).filter (kb f) := by
  have hrn : (pq (c + 1)).toNatClampNeg = c + 1 := pq_n (by omega)
  have hk : ¬ kb f (pq (c + 1)) = true := fun h => kb_t.mp h (by rw [hrn]; exact hf.2 (c + 1) (by omega) (by omega))
  have hl : (seg f' 0 (c + 1)).filter (kb f) = (seg (zlOrd L) 0 c).filter (kb f) := by
    rw [h1, h2, List.filter_append, List.filter_append, List.filter_cons_of_neg hk]
  refine ⟨?_, hl⟩
  unfold pRes
  have e0 : zlOrd (pNew L c s nd t o p b f' m) = f' := rfl
  rw [e0, hl]
  have hm : ∀ x ∈ (seg (zlOrd L) 0 c).filter (kb f), 1 ≤ x.toInt ∧ x.toInt ≤ c := fun x hx => (pLog_m hL).mp (List.mem_filter.mp hx).1
  rw [pRep_log (L := pNew L c s nd t o p b f' m) (K := L) _ _ (fun x hx => by
    have := hm x hx
    obtain ⟨x1, x2, x3, x4, x5, x6⟩ := pNew_o (L := L) hc (s := s) (nd := nd) (t := t) (o := o) (p := p) (b := b) (f := f') (m := m) (x := x) (by omega) (by omega)
    exact ⟨x1, x4, x5, x6⟩)]
  refine pRep_congr _ _ (fun x hx => ?_)
  have hx1 := hm x hx
  have ho0 : s = 4 → 0 ≤ o.toInt := fun h => by have := (hO.2.2.2.1 h).1; omega
  unfold pu
  by_cases hxo : s = 4 ∧ x = o
  · have e1 : zlV (pNew L c s nd t o p b f' m) x = pq (c + 1) := by
      rw [hxo.2]
      show (if s = 4 then upd L.2.2.2.2.2.2.1 o.toNatClampNeg (pq (c + 1)) else L.2.2.2.2.2.2.1) o.toNatClampNeg = _
      rw [if_pos hxo.1, pk_us]
    have e2 : zlV L x = 0 := by rw [hxo.2]; exact (hO.2.2.2.1 hxo.1).2.2.2
    rw [e1, e2, hrn]
    have z1 : f (c + 1) = 0 := hf.2 (c + 1) (by omega) (by omega)
    have z2 : f (0 : Int32).toNatClampNeg = 0 := hf.1
    rw [z1, z2]
  · rw [pNew_v hc (by omega) ho0 hxo]
theorem pPer_new {L : cL} {c md : Nat} (hL : pLog L c md) (hc : c < 300) {s nd t o p b : Int32} (hO : pOK L c md s nd t o p) {f' : cA} {m : Int32} {a e : List Int32} (h1 : seg (zlOrd L) 0 c = a ++ e) (h2 : seg f' 0 (c + 1) = a ++ pq (c + 1) :: e) {P : cP} (hP : pPer L c P) : pPer (pNew L c s nd t o p b f' m) (c + 1) P := by
  obtain ⟨e1, e2⟩ := pRes_new hL hc (b := b) (m := m) hO h1 h2 hP.1
  obtain ⟨t0, t1, t2, t3⟩ := hP.2.2.2
  refine ⟨⟨hP.1.1, fun j h1 h2 => hP.1.2 j (by omega) h2⟩, ?_, ?_, t0, t1, by omega, fun x hx hk => ?_⟩
  · unfold pTr; rw [e1]; exact hP.2.1
  · show P.2.2.1 = pq ((seg f' 0 (c + 1)).filter (kb P.1)).length
    rw [e2]; exact hP.2.2.1
  · rw [rws_s] at hx
    rcases List.mem_append.mp hx with hx | hx
    · have hx1 := (rws_m (by omega)).mp hx
      obtain ⟨x1, x2, x3, x4, x5, x6⟩ := pNew_o (L := L) hc (s := s) (nd := nd) (t := t) (o := o) (p := p) (b := b) (f := f') (m := m) (x := x) (by omega) (by omega)
      rw [x3]; exact t3 x hx hk
    · rw [List.mem_singleton.mp hx] at hk
      have hrn : (pq (c + 1)).toNatClampNeg = c + 1 := pq_n (by omega)
      exact absurd (by rw [hrn]; exact hP.1.2 (c + 1) (by omega) (by omega)) (kb_t.mp hk)
