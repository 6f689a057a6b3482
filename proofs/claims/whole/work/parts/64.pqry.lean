/-! what is asked of the trees -/
theorem sub_len : ∀ (l m : List Int32), l.Nodup → (∀ x ∈ l, x ∈ m) → l.length ≤ m.length
  | [], m, _, _ => by simp
  | a :: l, m, hd, h => by
    obtain ⟨h1, h2⟩ := List.nodup_cons.mp hd
    have ha : a ∈ m := h a List.mem_cons_self
    have := sub_len l (m.erase a) h2 (fun x hx => (List.mem_erase_of_ne (fun e => h1 (by rw [← e]; exact hx))).mpr (h x (List.mem_cons_of_mem _ hx)))
    rw [List.length_erase_of_mem ha] at this
    have hp : 0 < m.length := List.length_pos_of_mem ha
    rw [List.length_cons]; omega
theorem nd_len {l m : List Int32} (h1 : l.Nodup) (h2 : m.Nodup) (h : ∀ x, x ∈ l ↔ x ∈ m) : l.length = m.length :=
  Nat.le_antisymm (sub_len l m h1 (fun x hx => (h x).mp hx)) (sub_len m l h2 (fun x hx => (h x).mpr hx))
/-- the children of t (-1: what lies in the bin) -/
def pKd (A : pT) (t : Int32) : List Int32 := A.1.filter (fun x => A.2.1 x == t)
theorem pKd_kL {A : pT} (hW : pW A) {t : Int32} {P : Nat} (ht : t = -1 ∨ (0 ≤ t.toInt ∧ t.toInt < 40)) (hP : pE t = pq P) : pKd A t = kL A.1 (fun x => pE (A.2.1 x)) P := by
  unfold pKd kL
  apply List.filter_congr
  intro x hx
  rw [← hP]
  rw [Bool.eq_iff_iff, beq_iff_eq, beq_iff_eq]
  show A.2.1 x = t ↔ pE (A.2.1 x) = pE t
  refine ⟨fun e => by rw [e], fun e => ?_⟩
  have hx40 : (A.2.1 x).toInt < 40 := by
    rcases pA_par hW hx with h | h
    · rw [h, ti_m1]; omega
    · omega
  rcases ht with h | h
  · rw [h, pE_b] at e
    rw [h]; exact (pE_40 hx40).mp e
  · rcases pA_par hW hx with g | g
    · rw [g, pE_b, pE_t h.1] at e
      rw [← e, ti_40] at h; omega
    · rw [pE_t g.1, pE_t h.1] at e; exact e
theorem pt_ln {T : cT} {A : pT} (hr : rT T A) {i m : Nat} (hi : i + (m + 1) = A.1.length) : T.2.2.2.1 i ∈ A.1 := by
  have h1 := seg_get T.2.2.2.1 0 A.1.length i (by omega)
  rw [Nat.zero_add, hr.2.2.1] at h1
  exact List.mem_of_getElem? h1
theorem pt_cc {T : cT} {A : pT} (hW : pW A) (hr : rT T A) {t : Int32} : ∀ (m i n k : Nat), i + m = A.1.length → m < n → l_T_childCount_4 T t n (pq k) (pq i) = pq (k + ((seg T.2.2.2.1 i m).filter (fun x => A.2.1 x == t)).length)
  | m, i, 0, k, _, h => by omega
  | 0, i, n + 1, k, h1, h2 => by
    have hl := pW_len hW
    rw [l_T_childCount_4, hr.2.1, if_pos ((pq_le (by omega) (by omega)).mpr (by omega))]; rfl
  | m + 1, i, n + 1, k, h1, h2 => by
    have hl := pW_len hW
    have hx := pt_ln hr h1
    rw [l_T_childCount_4, hr.2.1, if_neg (fun h => by have := (pq_le (by omega) (by omega)).mp h; omega), pq_n (by omega), pq_inc, pq_inc, (hr.2.2.2.2 _ (Or.inr hx)).1, seg_s]
    by_cases e : A.2.1 (T.2.2.2.1 i) = t
    · rw [if_pos e, pt_cc hW hr m (i + 1) n (k + 1) (by omega) (by omega), List.filter_cons_of_pos (by simp [e]), List.length_cons]
      congr 1; omega
    · rw [if_neg e, pt_cc hW hr m (i + 1) n k (by omega) (by omega), List.filter_cons_of_neg (by simp [e])]
theorem pt_cc' {T : cT} {A : pT} (hW : pW A) (hr : rT T A) (t : Int32) : m_T_childCount T t = pq (pKd A t).length := by
  have hl := pW_len hW
  have := pt_cc hW hr (t := t) A.1.length 0 41 0 (by omega) (by omega)
  rw [Nat.zero_add, hr.2.2.1] at this
  exact this
theorem pt_ca {T : cT} {A : pT} (hW : pW A) (hr : rT T A) {t q : Int32} : ∀ (m i n k : Nat), i + m = A.1.length → k ≤ i → m < n →
    (∃ j, q = pq (k + j) ∧ ((seg T.2.2.2.1 i m).filter (fun x => A.2.1 x == t))[j]? = some (l_T_childAt_5 T t q n (pq k) (pq i))) ∨ ((∀ j, j < ((seg T.2.2.2.1 i m).filter (fun x => A.2.1 x == t)).length → q ≠ pq (k + j)) ∧ l_T_childAt_5 T t q n (pq k) (pq i) = -1)
  | m, i, 0, k, _, _, h => by omega
  | 0, i, n + 1, k, h1, h3, h2 => by
    have hl := pW_len hW
    refine Or.inr ⟨fun j hj => ?_, ?_⟩
    · exact absurd hj (Nat.not_lt_zero _)
    · rw [l_T_childAt_5, hr.2.1, if_pos ((pq_le (by omega) (by omega)).mpr (by omega))]
  | m + 1, i, n + 1, k, h1, h3, h2 => by
    have hl := pW_len hW
    have hx := pt_ln hr h1
    rw [l_T_childAt_5, hr.2.1, if_neg (fun h => by have := (pq_le (by omega) (by omega)).mp h; omega), pq_n (by omega), pq_inc, pq_inc, (hr.2.2.2.2 _ (Or.inr hx)).1, seg_s]
    by_cases e : A.2.1 (T.2.2.2.1 i) = t
    · rw [if_pos e, List.filter_cons_of_pos (by simp [e])]
      by_cases eq : pq k = q
      · rw [if_pos eq]
        exact Or.inl ⟨0, eq.symm, rfl⟩
      · rw [if_neg eq]
        rcases pt_ca hW hr (t := t) (q := q) m (i + 1) n (k + 1) (by omega) (by omega) (by omega) with ⟨j, a, b⟩ | ⟨a, b⟩
        · exact Or.inl ⟨j + 1, by rw [a]; congr 1; omega, by rw [List.getElem?_cons_succ]; exact b⟩
        · refine Or.inr ⟨fun j hj => ?_, b⟩
          cases j with
          | zero => exact fun e => eq e.symm
          | succ j =>
            rw [List.length_cons] at hj
            have := a j (by omega)
            rw [show k + (j + 1) = k + 1 + j by omega]; exact this
    · rw [if_neg e, List.filter_cons_of_neg (by simp [e])]
      exact pt_ca hW hr m (i + 1) n k (by omega) (by omega) (by omega)
theorem pt_ca' {T : cT} {A : pT} (hW : pW A) (hr : rT T A) (t q : Int32) : (∃ j, q = pq j ∧ (pKd A t)[j]? = some (m_T_childAt T t q)) ∨ ((∀ j, j < (pKd A t).length → q ≠ pq j) ∧ m_T_childAt T t q = -1) := by
  have hl := pW_len hW
  have := pt_ca hW hr (t := t) (q := q) A.1.length 0 41 0 (by omega) (by omega) (by omega)
  rw [hr.2.2.1] at this
  simp only [Nat.zero_add] at this
  exact this
/-- the place of x in a list -/
def pPl (l : List Int32) (x : Int32) (n : Nat) : Prop := ∃ a b, l = a ++ x :: b ∧ x ∉ a ∧ a.length = n
theorem pPl_u {l : List Int32} {x : Int32} {n m : Nat} (h1 : pPl l x n) (h2 : pPl l x m) : n = m := by
  obtain ⟨a, b, e1, n1, l1⟩ := h1
  obtain ⟨a', b', e2, n2, l2⟩ := h2
  have := p_cut n1 n2 (e1.symm.trans e2)
  rw [← l1, ← l2, this]
theorem pt_po {T : cT} {A : pT} (hW : pW A) (hr : rT T A) {o : Int32} (ho : o ∈ A.1) : ∀ (m i n k : Nat), i + m = A.1.length → m < n → o ∈ seg T.2.2.2.1 i m → ∃ q, pPl ((seg T.2.2.2.1 i m).filter (fun x => A.2.1 x == A.2.1 o)) o q ∧ l_T_placeOf_10 T o n (pq k) (pq i) = pq (k + q)
  | m, i, 0, k, _, h, _ => by omega
  | 0, i, n + 1, k, h1, h2, hm => (List.not_mem_nil hm).elim
  | m + 1, i, n + 1, k, h1, h2, hm => by
    have hl := pW_len hW
    have hx := pt_ln hr h1
    rw [l_T_placeOf_10, hr.2.1, if_neg (fun h => by have := (pq_le (by omega) (by omega)).mp h; omega), pq_n (by omega), pq_inc, pq_inc, (hr.2.2.2.2 _ (Or.inr hx)).1, (hr.2.2.2.2 _ (Or.inr ho)).1]
    rw [seg_s] at hm ⊢
    by_cases e : T.2.2.2.1 i = o
    · rw [if_pos e, e, List.filter_cons_of_pos (by simp)]
      exact ⟨0, ⟨[], _, rfl, List.not_mem_nil, rfl⟩, rfl⟩
    · rw [if_neg e]
      have hm' : o ∈ seg T.2.2.2.1 (i + 1) m := by
        rcases List.mem_cons.mp hm with h | h
        · exact absurd h.symm e
        · exact h
      by_cases e2 : A.2.1 (T.2.2.2.1 i) = A.2.1 o
      · rw [if_pos e2, List.filter_cons_of_pos (by simp [e2])]
        obtain ⟨q, ⟨a, b, c1, c2, c3⟩, c4⟩ := pt_po hW hr ho m (i + 1) n (k + 1) (by omega) (by omega) hm'
        refine ⟨q + 1, ⟨T.2.2.2.1 i :: a, b, by rw [c1]; rfl, fun hm => ?_, by rw [List.length_cons, c3]⟩, by rw [c4]; congr 1; omega⟩
        rcases List.mem_cons.mp hm with h | h
        · exact e h.symm
        · exact c2 h
      · rw [if_neg e2, List.filter_cons_of_neg (by simp [e2])]
        exact pt_po hW hr ho m (i + 1) n k (by omega) (by omega) hm'
theorem pt_po' {T : cT} {A : pT} (hW : pW A) (hr : rT T A) {o : Int32} (ho : o ∈ A.1) : ∃ q, pPl (pKd A (A.2.1 o)) o q ∧ q ≤ 39 ∧ m_T_placeOf T o = pq q := by
  have hl := pW_len hW
  have ho1 := hW.2.1 o ho
  obtain ⟨q, h1, h2⟩ := pt_po hW hr ho A.1.length 0 41 0 (by omega) (by omega) (by rw [hr.2.2.1]; exact ho)
  rw [hr.2.2.1] at h1
  rw [Nat.zero_add] at h2
  refine ⟨q, h1, ?_, ?_⟩
  · obtain ⟨a, b, c1, c2, c3⟩ := h1
    have := List.length_filter_le (fun x => A.2.1 x == A.2.1 o) A.1
    rw [c1, List.length_append] at this
    omega
  · unfold m_T_placeOf
    rw [if_neg]
    · exact h2
    · rintro rfl
      rw [ti_0] at ho1; omega
theorem pm_po' {M : cM} {A : pT} (hW : pW A) (hr : rU M.2.2.1 A) {o : Int32} (ho : o ∈ A.1) : ∃ q, pPl (pKd A (A.2.1 o)) o q ∧ m_M_placeOf M o (M.2.2.1.2.1 o.toNatClampNeg) = pq q := by
  obtain ⟨P, hP, eP⟩ := pE_r hW ho
  have h39 := pW_len hW
  have hk := hr.2.2.2.2 P hP
  have hle := kL_le A.1 (fun x => pE (A.2.1 x)) P
  have hkd : pKd A (A.2.1 o) = kL A.1 (fun x => pE (A.2.1 x)) P := pKd_kL hW (pA_par hW ho) eP
  rw [hr.2.2.1 o ho, eP, hkd]
  have hpo := pm_po (M := M) (b := o) hP hk.1 (by omega) (kL A.1 (fun x => pE (A.2.1 x)) P).length 0 41 (by omega) (by omega)
  rw [Nat.add_zero, hk.2] at hpo
  rcases hpo with ⟨l1, l2, a, b, c⟩ | ⟨a, _⟩
  · rw [Nat.zero_add] at c
    exact ⟨l1.length, ⟨l1, l2, a, b, rfl⟩, c⟩
  · exact absurd (kL_m.mpr ⟨ho, eP⟩) a
theorem pm_th {S : cM} : ∀ (m i n k : Nat), i + m = 40 → m < n → l_M_thereOf_9 n (pq k) (pq i) S = (pq (k + ((seg pq i m).filter (fun x => !(S.2.2.1.1 x.toNatClampNeg == 0))).length), S)
  | m, i, 0, k, _, h => by omega
  | 0, i, n + 1, k, h1, h2 => by
    rw [l_M_thereOf_9, ← pq_40, if_pos ((pq_le (by omega) (by omega)).mpr (by omega))]; rfl
  | m + 1, i, n + 1, k, h1, h2 => by
    have hin : (pq i).toNatClampNeg = i := pq_n (by omega)
    rw [l_M_thereOf_9, ← pq_40, if_neg (fun h => by have := (pq_le (by omega) (by omega)).mp h; omega), pq_inc, seg_s]
    by_cases e : S.2.2.1.1 (pq i).toNatClampNeg = 0
    · rw [if_pos e, show pq k + 0 = pq k from pq_add k 0, pm_th m (i + 1) n k (by omega) (by omega), List.filter_cons_of_neg (by simp [e])]
    · rw [if_neg e, pq_inc, pm_th m (i + 1) n (k + 1) (by omega) (by omega), List.filter_cons_of_pos (by simp [e]), List.length_cons]
      congr 2; omega
theorem pm_th' {S : cM} {A : pT} (hW : pW A) (hr : rU S.2.2.1 A) : l_M_thereOf_9 41 0 0 S = (pq (A.1.length + 1), S) := by
  have := pm_th (S := S) 40 0 41 0 (by omega) (by omega)
  rw [Nat.zero_add] at this
  show l_M_thereOf_9 41 (pq 0) (pq 0) S = _
  rw [this]
  congr 2
  have hnd : (0 :: A.1).Nodup := List.nodup_cons.mpr ⟨fun h => by have := hW.2.1 0 h; rw [ti_0] at this; omega, hW.1⟩
  have hnd2 : (seg pq 0 40).Nodup := by
    unfold seg
    refine List.Pairwise.map _ (R := fun a b => (a < 301 ∧ b < 301) ∧ a ≠ b) (fun a b h e => h.2 ((pq_inj (by omega) (by omega)).mp e)) ?_
    refine List.Pairwise.imp_of_mem (fun ha hb hab => ⟨?_, hab⟩) (List.nodup_range' (step := 1))
    rw [List.mem_range'_1] at ha hb
    omega
  have := nd_len (hnd2.filter (fun x => !(S.2.2.1.1 x.toNatClampNeg == 0))) hnd (fun x => by
    rw [List.mem_filter, seg_mem, List.mem_cons]
    constructor
    · rintro ⟨⟨j, _, h2, rfl⟩, h3⟩
      have hi : (pq j).toInt = j := pq_i (by omega)
      have h4 : ¬ S.2.2.1.1 (pq j).toNatClampNeg = 0 := by simpa using h3
      have h5 := mt (pm_in0 hr (x := pq j) (by omega) (by omega)).mpr h4
      exact Classical.not_not.mp h5
    · intro h
      have h1 := pIn_r hW (show pIn A x from h)
      have h2 := pn_i h1.1
      refine ⟨⟨x.toNatClampNeg, by omega, by omega, pq_of h1.1⟩, ?_⟩
      have h3 := (pm_in0 hr h1.1 h1.2)
      have h4 : ¬ S.2.2.1.1 x.toNatClampNeg = 0 := fun e => h3.mp e h
      simp [h4])
  rw [this, List.length_cons]
/-- object -/
theorem pq_obj {T : cT} {M : cM} {A : pT} (hW : pW A) (hr : rT T A) (hm : rU M.2.2.1 A) {o : Int32} (ho : pIn A o) :
    T.2.1 o.toNatClampNeg = m_M_parentOf M o ∧ m_T_stepsUp T o (m_T_topOf T o) = m_M_depth M o ∧ m_T_childCount T o = M.2.2.1.2.2.2.1 o.toNatClampNeg ∧ m_T_topOf T o = m_M_top M o ∧ m_T_placeOf T o = (if o = 0 then 0 else m_M_placeOf M o (M.2.2.1.2.1 o.toNatClampNeg)) ∧ T.2.2.1 o.toNatClampNeg = M.2.2.1.2.2.1 o.toNatClampNeg := by
  obtain ⟨d, hd⟩ := hW.2.2.2.1
  have h40 := pIn_r hW ho
  obtain ⟨a1, a2⟩ := pt_to0' hW hd hr ho
  obtain ⟨b1, b2⟩ := pm_top' hW hd hm ho
  refine ⟨?_, ?_, ?_, pB_f a1 b1, ?_, ?_⟩
  · rw [(hr.2.2.2.2 o ho).1]
    unfold m_M_parentOf
    by_cases e : o = 0
    · rw [if_pos e, e]; exact hW.2.2.1.1
    · have hoA := ho.resolve_left e
      rw [if_neg e, hm.2.2.1 o hoA]
      rcases pA_par hW hoA with h | h
      · rw [h, if_pos pE_b]
      · rw [if_neg, pE_t h.1]
        intro e2
        rw [pE_t h.1] at e2
        rw [e2, ti_40] at h; omega
  · rw [pm_depth' hW hd hm ho]
    rcases pt_su' hW hr o (m_T_topOf T o) ho with ⟨k, h1, h2, h3⟩ | ⟨h1, _⟩
    · rw [h3, pB_u hW ho h1 a1]
    · exact absurd ⟨_, a1⟩ h1
  · obtain ⟨q1, q2⟩ := pE_q h40
    rw [pt_cc' hW hr, pKd_kL hW (Or.inr h40) q1]
    exact (hm.2.2.2.2 _ q2).1.symm
  · by_cases e : o = 0
    · rw [if_pos e, e]; rfl
    · have hoA := ho.resolve_left e
      rw [if_neg e]
      obtain ⟨q, h1, _, h2⟩ := pt_po' hW hr hoA
      obtain ⟨q', h3, h4⟩ := pm_po' hW hm hoA
      rw [h2, h4, pPl_u h1 h3]
  · rw [(hr.2.2.2.2 o ho).2, hm.2.2.2.1 o ho]
/-- child -/
theorem pq_kid {T : cT} {M : cM} {A : pT} (hW : pW A) (hr : rT T A) (hm : rU M.2.2.1 A) {t k : Int32} {P : Nat} (ht : t = -1 ∨ (0 ≤ t.toInt ∧ t.toInt < 40)) (hP : pE t = pq P) (hP41 : P < 41) : m_T_childAt T t k = (if m_M_within k 0 ((M.2.2.1.2.2.2.1 P) - 1) = 0 then -1 else M.2.2.1.2.2.2.2 ((40 * pq P) + k).toNatClampNeg) := by
  have h39 := pW_len hW
  have hk := hm.2.2.2.2 P hP41
  have hle := kL_le A.1 (fun x => pE (A.2.1 x)) P
  rw [← pKd_kL hW ht hP] at hk hle
  have hlo := ti_lo k
  have hhi := ti_hi k
  have hwi : m_M_within k 0 ((M.2.2.1.2.2.2.1 P) - 1) = 0 ↔ ¬ (0 ≤ k.toInt ∧ k.toInt < (pKd A t).length) := by
    unfold m_M_within
    have e1 : ((M.2.2.1.2.2.2.1 P) - 1).toInt = (pKd A t).length - 1 := by
      rw [hk.1, ti_dec' (by rw [pq_i (by omega)]; omega), pq_i (by omega)]
    have a := @Int32.lt_iff_toInt_lt k 0
    have b := @Int32.lt_iff_toInt_lt ((M.2.2.1.2.2.2.1 P) - 1) k
    rw [ti_0] at a
    rw [e1] at b
    by_cases h1 : k < 0
    · rw [if_pos h1]; have := a.mp h1; exact ⟨fun _ h => by omega, fun _ => rfl⟩
    · rw [if_neg h1]
      have h1' := mt a.mpr h1
      by_cases h2 : (M.2.2.1.2.2.2.1 P) - 1 < k
      · rw [if_pos h2]; have := b.mp h2; exact ⟨fun _ h => by omega, fun _ => rfl⟩
      · rw [if_neg h2]; have := mt b.mpr h2; exact ⟨fun e => absurd e (by decide), fun h => absurd ⟨by omega, by omega⟩ h⟩
  rcases pt_ca' hW hr t k with ⟨j, hj, e⟩ | ⟨hj, e⟩
  · have hjl : j < (pKd A t).length := (List.getElem?_eq_some_iff.mp e).1
    rw [if_neg (fun h => hwi.mp h (by rw [hj, pq_i (by omega)]; omega)), hj, p40, pq_n (by omega)]
    have := seg_get M.2.2.1.2.2.2.2 (40 * P) (pKd A t).length j hjl
    rw [hk.2, e] at this
    rw [← hj]
    exact Option.some.inj this
  · rw [if_pos (hwi.mpr (fun h => ?_)), e]
    have := pn_i h.1
    exact hj k.toNatClampNeg (by omega) (pq_of h.1).symm
