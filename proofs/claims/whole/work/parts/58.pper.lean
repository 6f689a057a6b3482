/-! what one of the people holds after rows were judged -/
noncomputable def pRes (L : cL) (c : Nat) (f : cA) : pT × (Int32 → Int32) := pRep L (pu L f) ((seg (zlOrd L) 0 c).filter (kb f)) (pA0, fun _ => 0)
theorem pRes_congr {L : cL} {c : Nat} {f g : cA} (h : ∀ j, f j = 0 ↔ g j = 0) : pRes L c f = pRes L c g := by
  have e1 : kb f = kb g := by
    funext x
    have hx := h x.toNatClampNeg
    cases ha : kb f x <;> cases hb : kb g x
    · rfl
    · have := kb_t.mp hb
      have h2 : ¬ kb f x = true := by rw [ha]; decide
      exact absurd (kb_t.mpr (fun e => this (hx.mp e))) h2
    · have := kb_t.mp ha
      have h2 : ¬ kb g x = true := by rw [hb]; decide
      exact absurd (kb_t.mpr (fun e => this (hx.mpr e))) h2
    · rfl
  have e2 : pu L f = pu L g := by
    funext x
    exact propext (not_congr (h _))
  unfold pRes
  rw [e1, e2]
/-- nothing but rows is known -/
def pKn (c : Nat) (f : cA) : Prop := f 0 = 0 ∧ ∀ j, c < j → j ≤ 300 → f j = 0
theorem pKn_n {L : cL} {c md : Nat} (hL : pLog L c md) {f : cA} (hf : pKn c f) {x : Int32} (h0 : 0 ≤ x.toInt) (h1 : x.toInt ≤ 300) (hx : x ∉ (seg (zlOrd L) 0 c).filter (kb f)) : f x.toNatClampNeg = 0 := by
  have hi := pn_i h0
  by_cases hz : x.toInt = 0
  · have : x.toNatClampNeg = 0 := by omega
    rw [this]; exact hf.1
  · by_cases hc : x.toInt ≤ c
    · by_cases hk : f x.toNatClampNeg = 0
      · exact hk
      · exact absurd (List.mem_filter.mpr ⟨(pLog_m hL).mpr ⟨by omega, hc⟩, kb_t.mpr hk⟩) hx
    · exact hf.2 _ (by omega) (by omega)
theorem pJ_00 {L : cL} {c md : Nat} (hL : pLog L c md) {P : cP} {g : cT} (hg : rT g pA0) (hf : pKn c P.1) : pJ L P ((seg (zlOrd L) 0 0).filter (kb P.1)) ((seg (zlOrd L) 0 c).filter (kb P.1)) (P.1, g, P.2.2) pA0 (fun _ => 0) :=
  ⟨⟨pW_0, fun y hy => (List.not_mem_nil hy).elim⟩, hg, rfl, fun _ => Iff.rfl, fun x h0 h1 hx => pKn_n hL hf h0 h1 hx⟩
theorem pJ_0 {L : cL} {c md : Nat} (hL : pLog L c md) {P : cP} (hok : okT P.2.1) (hf : pKn c P.1) : pJ L P ((seg (zlOrd L) 0 0).filter (kb P.1)) ((seg (zlOrd L) 0 c).filter (kb P.1)) (P.1, m_T_startAnew P.2.1, P.2.2) pA0 (fun _ => 0) :=
  pJ_00 hL (pt_start hok) hf
theorem pj_fin {L : cL} {c md : Nat} (hL : pLog L c md) {P : cP} (hok : okT P.2.1) (hf : pKn c P.1) : pJ L P ((seg (zlOrd L) 0 c).filter (kb P.1)) [] (m_P_judgeAll L P) (pRes L c P.1).1 (pRes L c P.1).2 := by
  have hc := hL.1.1
  exact pj_all hL c 0 301 _ pA0 (fun _ => 0) (by omega) (by omega) (pJ_0 hL hok hf)
theorem pLog_okR {L : cL} {c md : Nat} (hL : pLog L c md) {x : Int32} (hx : x ∈ rws c) : okR L x := by
  have hR := hL.2.2.2.2.2.1 x hx
  have hx1 := (rws_m hL.1.1).mp hx
  have h1 := hL.1
  refine ⟨by omega, ?_, fun h => ?_, fun h => ?_, fun h => ?_⟩
  · rcases hR.2.2.2.2.2.2 with h | ⟨h, _⟩
    · show 0 ≤ (zlV L x).toInt ∧ (zlV L x).toInt < 301
      rw [h, ti_0]; omega
    · show 0 ≤ (zlV L x).toInt ∧ (zlV L x).toInt < 301
      omega
  · have := hR.2.1 h
    show 1 ≤ (zlO L x).toInt ∧ (zlO L x).toInt < 40
    omega
  · have := hR.2.2.1 h
    show 0 ≤ (zlP L x).toInt ∧ (zlP L x).toInt < 40
    omega
  · have := (hR.2.2.2.1 h).1
    show 0 ≤ (zlO L x).toInt ∧ (zlO L x).toInt < 301
    omega
theorem pLog_okL {L : cL} {c md : Nat} (hL : pLog L c md) : okL L := by
  have h1 := hL.1
  refine ⟨?_, hL.2.2.1, ?_⟩
  · rw [hL.2.1.1, pq_i (by omega)]; omega
  · rw [hL.2.1.2, pq_i (by omega)]; omega
theorem pOrd_at {L : cL} {c md : Nat} (hL : pLog L c md) {i m : Nat} (hi : i + (m + 1) = c) (f : cA) : zlOrd L i ∈ rws c ∧ (∀ z ∈ (seg (zlOrd L) 0 i).filter (kb f), z ∈ rws c) ∧ zlOrd L i ∉ (seg (zlOrd L) 0 i).filter (kb f) := by
  refine ⟨?_, fun z hz => ?_, fun hz => ?_⟩
  · have h1 := seg_get (zlOrd L) 0 c i (by omega)
    rw [Nat.zero_add] at h1
    exact hL.2.2.2.1.mem_iff.mp (List.mem_of_getElem? h1)
  · have h1 := (List.mem_filter.mp hz).1
    refine hL.2.2.2.1.mem_iff.mp ?_
    rw [← hi, seg_app]
    exact List.mem_append_left _ h1
  · have h1 := (List.mem_filter.mp hz).1
    have h2 := pLog_d hL
    rw [← hi, seg_app, Nat.zero_add, seg_s, List.nodup_append] at h2
    exact h2.2.2 _ h1 _ List.mem_cons_self rfl
theorem pj_ok {L : cL} {c md : Nat} (hL : pLog L c md) {P : cP} (hok : okT P.2.1) (hf : pKn c P.1) : jOK L P := by
  have hc := hL.1.1
  refine ⟨fun x S => ∃ (i m : Nat) (A : pT) (h : Int32 → Int32), x = pq i ∧ i + m = c ∧ pJ L P ((seg (zlOrd L) 0 i).filter (kb P.1)) ((seg (zlOrd L) i m).filter (kb P.1)) S A h, ⟨0, c, pA0, fun _ => 0, rfl, by omega, pJ_0 hL hok hf⟩, ?_⟩
  rintro x S h0 h1 ⟨i, m, A, h, rfl, hi, hJ⟩
  rw [hL.2.1.1, pq_i (by omega), pq_i (by omega)] at h1
  obtain ⟨m, rfl⟩ : ∃ m', m = m' + 1 := ⟨m - 1, by omega⟩
  obtain ⟨a1, a2, a3⟩ := pOrd_at hL hi P.1
  rw [pq_n (by omega), pq_inc]
  have e1 : seg (zlOrd L) 0 (i + 1) = seg (zlOrd L) 0 i ++ [zlOrd L i] := by rw [seg_e, Nat.zero_add]
  rw [seg_s] at hJ
  refine ⟨pLog_okR hL a1, hJ.2.1.1, fun hk => ?_, fun hk => ?_⟩
  · have hk2 : ¬ P.1 (zlOrd L i).toNatClampNeg = 0 := fun e => hk (knows_0.mpr ((hJ.2.2.2.1 _).mpr e))
    have hk' : kb P.1 (zlOrd L i) = true := kb_t.mpr hk2
    rw [List.filter_cons_of_pos hk'] at hJ
    refine ⟨i + 1, m, (pHow L (pu L P.1) A (zlOrd L i)).2, pU h (zlOrd L i) (pHow L (pu L P.1) A (zlOrd L i)).1, rfl, by omega, ?_⟩
    rw [e1, List.filter_append, List.filter_cons_of_pos hk', List.filter_nil]
    exact pJ_step hL hJ a2 a1 a3 hk2
  · have hk2 : P.1 (zlOrd L i).toNatClampNeg = 0 := (hJ.2.2.2.1 _).mp (knows_0.mp hk)
    have hk' : kb P.1 (zlOrd L i) = false := by unfold kb; rw [hk2]; rfl
    rw [List.filter_cons_of_neg (by rw [hk']; decide)] at hJ
    refine ⟨i + 1, m, A, h, rfl, by omega, ?_⟩
    rw [e1, List.filter_append, List.filter_cons_of_neg (by rw [hk']; decide), List.filter_nil, List.append_nil]
    exact hJ
theorem pRep_app {L : cL} {u : Int32 → Prop} : ∀ (a b : List Int32) (S : pT × (Int32 → Int32)), pRep L u (a ++ b) S = pRep L u b (pRep L u a S)
  | [], b, S => rfl
  | x :: a, b, S => pRep_app a b _
theorem pRep_congr {L : cL} {u v : Int32 → Prop} : ∀ (l : List Int32) (S : pT × (Int32 → Int32)), (∀ x ∈ l, u x ↔ v x) → pRep L u l S = pRep L v l S
  | [], S, _ => rfl
  | x :: l, S, h => by
    have e : pHow L u S.1 x = pHow L v S.1 x := by
      unfold pHow
      split
      · rfl
      · have hx := propext (h x List.mem_cons_self)
        rw [hx]
    show pRep L u l _ = pRep L v l _
    rw [e]
    exact pRep_congr l _ (fun y hy => h y (List.mem_cons_of_mem _ hy))
/-- nothing but the rows of a list matters -/
theorem pRep_log {L K : cL} {u : Int32 → Prop} : ∀ (l : List Int32) (S : pT × (Int32 → Int32)), (∀ x ∈ l, zlS L x = zlS K x ∧ zlO L x = zlO K x ∧ zlP L x = zlP K x ∧ zlB L x = zlB K x) → pRep L u l S = pRep K u l S
  | [], S, _ => rfl
  | x :: l, S, h => by
    obtain ⟨h1, h2, h3, h4⟩ := h x List.mem_cons_self
    have e : pHow L u S.1 x = pHow K u S.1 x := by
      unfold pHow
      rw [h1, h2, h3, h4]
    show pRep L u l _ = pRep K u l _
    rw [e]
    exact pRep_log l _ (fun y hy => h y (List.mem_cons_of_mem _ hy))
theorem pRep_undo {L : cL} {u : Int32 → Prop} : ∀ (l : List Int32) (A : pT) (h : Int32 → Int32), (∀ x ∈ l, zlS L x = 4) → (pRep L u l (A, h)).1 = A ∧ ∀ x, (pRep L u l (A, h)).2 x = if x ∈ l then 1 else h x
  | [], A, h, _ => ⟨rfl, fun x => by rw [if_neg List.not_mem_nil]; rfl⟩
  | y :: l, A, h, hl => by
    have e : pHow L u A y = (1, A) := by
      unfold pHow; rw [if_pos (hl y List.mem_cons_self)]
    show (pRep L u l ((pHow L u A y).2, pU h y (pHow L u A y).1)).1 = A ∧ ∀ x, (pRep L u l ((pHow L u A y).2, pU h y (pHow L u A y).1)).2 x = _
    rw [e]
    obtain ⟨a, b⟩ := pRep_undo l A (pU h y 1) (fun x hx => hl x (List.mem_cons_of_mem _ hx))
    refine ⟨a, fun x => ?_⟩
    rw [b x]
    by_cases h1 : x ∈ l
    · rw [if_pos h1, if_pos (List.mem_cons_of_mem _ h1)]
    · rw [if_neg h1]
      by_cases h2 : x = y
      · rw [h2, pU_s, if_pos List.mem_cons_self]
      · rw [pU_n h2, if_neg]
        intro hm
        rcases List.mem_cons.mp hm with g | g
        · exact h2 g
        · exact h1 g
theorem pG_rep {L : cL} {c md : Nat} (hL : pLog L c md) {u : Int32 → Prop} : ∀ (l done : List Int32) (A : pT) (h : Int32 → Int32), pG L done A → (done ++ l).Nodup → (∀ z ∈ done ++ l, z ∈ rws c) → pG L (done ++ l) (pRep L u l (A, h)).1
  | [], done, A, h, hG, _, _ => by rw [List.append_nil]; exact hG
  | x :: l, done, A, h, hG, hd, hm => by
    have hx : x ∉ done := fun hx => by
      rw [List.nodup_append] at hd
      exact hd.2.2 x hx x List.mem_cons_self rfl
    have e : done ++ x :: l = (done ++ [x]) ++ l := by simp
    have := pG_rep hL (u := u) l (done ++ [x]) (pHow L u A x).2 (pU h x (pHow L u A x).1) (pG_step hL hG (fun z hz => hm z (List.mem_append_left _ hz)) (hm x (List.mem_append_right _ List.mem_cons_self)) hx) (by rw [← e]; exact hd) (by rw [← e]; exact hm)
    rw [e]; exact this
theorem pRes_G {L : cL} {c md : Nat} (hL : pLog L c md) (f : cA) : pG L ((seg (zlOrd L) 0 c).filter (kb f)) (pRes L c f).1 := by
  have := pG_rep hL (u := pu L f) ((seg (zlOrd L) 0 c).filter (kb f)) [] pA0 (fun _ => 0) ⟨pW_0, fun y hy => (List.not_mem_nil hy).elim⟩ (by rw [List.nil_append]; exact (pLog_d hL).filter _) (fun z hz => by
    rw [List.nil_append] at hz
    exact hL.2.2.2.1.mem_iff.mp (List.mem_filter.mp hz).1)
  exact this
/-- one row more, behind which none but UNDO rows is known -/
theorem pj_inc {L : cL} {c md : Nat} (hL : pLog L c md) {P : cP} {f : cA} {r : Int32} (hr : r ∈ rws c) (hs : ¬ zlS L r = 4) (hfr : f r.toNatClampNeg = 0) (hP1 : P.1 = upd f r.toNatClampNeg 1) (hT : rT P.2.1 (pRes L c f).1) (hh : ∀ x : Int32, 0 ≤ x.toInt → x.toInt ≤ 300 → f x.toNatClampNeg = (pRes L c f).2 x) {a b : List Int32} (hab : seg (zlOrd L) 0 c = a ++ r :: b) (hb : ∀ x ∈ b, kb f x = true → zlS L x = 4) :
    (m_P_judge L P r).2.2 = P.2.2 ∧ (∀ j, (m_P_judge L P r).1 j = 0 ↔ P.1 j = 0) ∧ rT (m_P_judge L P r).2.1 (pRes L c P.1).1 ∧ ∀ x : Int32, 0 ≤ x.toInt → x.toInt ≤ 300 → (m_P_judge L P r).1 x.toNatClampNeg = (pRes L c P.1).2 x := by
  have hr1 := (rws_m hL.1.1).mp hr
  have hc := hL.1.1
  have hnd := pLog_d hL
  rw [hab, List.nodup_append] at hnd
  have hra : r ∉ a := fun h => hnd.2.2 r h r List.mem_cons_self rfl
  have hrb : r ∉ b := (List.nodup_cons.mp hnd.2.1).1
  have hin : ∀ x, x ∈ a ∨ x ∈ b → 0 ≤ x.toInt := fun x hx => by
    have : x ∈ seg (zlOrd L) 0 c := by
      rw [hab]
      rcases hx with h | h
      · exact List.mem_append_left _ h
      · exact List.mem_append_right _ (List.mem_cons_of_mem _ h)
    have := (pLog_m hL).mp this
    omega
  have hkb : ∀ x, x ∈ a ∨ x ∈ b → kb P.1 x = kb f x := fun x hx => by
    have hne : x ≠ r := by
      rintro rfl
      rcases hx with h | h
      · exact hra h
      · exact hrb h
    unfold kb
    rw [hP1, pk_un (fun e => hne (pn_inj (hin x hx) (by omega) e))]
  have hka : a.filter (kb P.1) = a.filter (kb f) := List.filter_congr fun x hx => hkb x (Or.inl hx)
  have hkbb : b.filter (kb P.1) = b.filter (kb f) := List.filter_congr fun x hx => hkb x (Or.inr hx)
  have hkr : kb P.1 r = true := kb_t.mpr (by rw [hP1, pk_us]; decide)
  have hkr' : ¬ kb f r = true := fun h => kb_t.mp h hfr
  have l1 : (seg (zlOrd L) 0 c).filter (kb f) = a.filter (kb f) ++ b.filter (kb f) := by
    rw [hab, List.filter_append, List.filter_cons_of_neg hkr']
  have l2 : (seg (zlOrd L) 0 c).filter (kb P.1) = a.filter (kb f) ++ r :: b.filter (kb f) := by
    rw [hab, List.filter_append, List.filter_cons_of_pos hkr, hka, hkbb]
  have huu : ∀ x, x ∈ seg (zlOrd L) 0 c → (pu L f x ↔ pu L P.1 x) := fun x hx => by
    have hxr := (pLog_m hL).mp hx
    have hR := pLog_r hL hxr
    unfold pu
    by_cases e : zlV L x = r
    · exfalso
      rcases hR.2.2.2.2.2.2 with h | ⟨_, h, _⟩
      · rw [h] at e; rw [← e, ti_0] at hr1; omega
      · rw [e] at h; exact hs h
    · have : 0 ≤ (zlV L x).toInt := by
        rcases hR.2.2.2.2.2.2 with h | ⟨h, _⟩
        · rw [h, ti_0]; omega
        · omega
      rw [hP1, pk_un (fun e2 => e (pn_inj this (by omega) e2))]
  have hsuf : ∀ x ∈ b.filter (kb f), zlS L x = 4 := fun x hx => hb x (List.mem_filter.mp hx).1 (List.mem_filter.mp hx).2
  have hrs : r ∉ b.filter (kb f) := fun h => hrb (List.mem_filter.mp h).1
  obtain ⟨B, hB⟩ : ∃ B, B = pRep L (pu L P.1) (a.filter (kb f)) (pA0, fun _ => 0) := ⟨_, rfl⟩
  have r1 : pRes L c f = pRep L (pu L P.1) (b.filter (kb f)) B := by
    unfold pRes
    rw [pRep_congr _ _ (fun x hx => huu x (List.mem_filter.mp hx).1), l1, pRep_app, ← hB]
  have r2 : pRes L c P.1 = pRep L (pu L P.1) (b.filter (kb f)) ((pHow L (pu L P.1) B.1 r).2, pU B.2 r (pHow L (pu L P.1) B.1 r).1) := by
    unfold pRes
    rw [l2, pRep_app, ← hB]; rfl
  obtain ⟨o1, o2⟩ := pRep_undo (L := L) (u := pu L P.1) (b.filter (kb f)) B.1 B.2 hsuf
  obtain ⟨n1, n2⟩ := pRep_undo (L := L) (u := pu L P.1) (b.filter (kb f)) (pHow L (pu L P.1) B.1 r).2 (pU B.2 r (pHow L (pu L P.1) B.1 r).1) hsuf
  have hG := pRes_G hL f
  have e1 : (pRes L c f).1 = B.1 := by rw [r1]; exact o1
  rw [e1] at hT hG
  have hrd : r ∉ (seg (zlOrd L) 0 c).filter (kb f) := fun h => hkr' (List.mem_filter.mp h).2
  obtain ⟨T', ej, hT'⟩ := pj_judge hL (u := pu L P.1) hG hT (fun z hz => hL.2.2.2.1.mem_iff.mp (List.mem_filter.mp hz).1) hr hrd Iff.rfl
  rw [ej]
  refine ⟨rfl, fun j => ?_, ?_, fun x h0 h1 => ?_⟩
  · show upd P.1 r.toNatClampNeg _ j = 0 ↔ _
    by_cases e : j = r.toNatClampNeg
    · rw [e, pk_us]
      refine ⟨fun h => absurd h pHow_n0, fun h => ?_⟩
      exact absurd h (kb_t.mp hkr)
    · rw [pk_un e]
  · rw [r2, n1]; exact hT'
  · rw [r2, n2]
    show upd P.1 r.toNatClampNeg _ x.toNatClampNeg = _
    by_cases e : x = r
    · rw [e, pk_us, if_neg hrs, pU_s]
    · rw [pk_un (fun e2 => e (pn_inj h0 (by omega) e2)), hP1, pk_un (fun e2 => e (pn_inj h0 (by omega) e2)), hh x h0 h1, r1, o2, pU_n e]
