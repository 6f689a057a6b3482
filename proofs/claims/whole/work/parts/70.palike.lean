/-! alike -/
theorem pPl_get {l : List Int32} {x : Int32} {n : Nat} (h : pPl l x n) : l[n]? = some x := by
  obtain ⟨a, b, e, _, hl⟩ := h
  rw [e, ← hl, List.getElem?_append_right (Nat.le_refl _), Nat.sub_self]; rfl
theorem get_pPl {l : List Int32} {x : Int32} {n : Nat} (hd : l.Nodup) (h : l[n]? = some x) : pPl l x n := by
  obtain ⟨hn, hx⟩ := List.getElem?_eq_some_iff.mp h
  have e : l = l.take n ++ x :: l.drop (n + 1) := by
    rw [← hx, ← List.drop_eq_getElem_cons hn, List.take_append_drop]
  refine ⟨l.take n, l.drop (n + 1), e, fun hm => ?_, by rw [List.length_take]; omega⟩
  rw [e, List.nodup_append] at hd
  exact hd.2.2 x hm x List.mem_cons_self rfl
theorem pl_eq {l m : List Int32} (h1 : l.Nodup) (h2 : m.Nodup) (h : ∀ x, x ∈ l ↔ x ∈ m) (hp : ∀ x ∈ l, ∀ q, pPl l x q → pPl m x q) : l = m := by
  have hlen := nd_len h1 h2 h
  apply List.ext_getElem?
  intro i
  by_cases hi : i < l.length
  · have e : l[i]? = some l[i] := List.getElem?_eq_getElem hi
    rw [e]
    exact (pPl_get (hp _ (List.getElem_mem hi) i (get_pPl h1 e))).symm
  · rw [List.getElem?_eq_none (by omega), List.getElem?_eq_none (by omega)]
/-- the people's two trees at one number -/
def pC (T U : cT) (j : Nat) : Prop := T.1 j = U.1 j ∧ (¬ T.1 j = 0 → T.2.1 j = U.2.1 j ∧ m_T_placeOf T (pq j) = m_T_placeOf U (pq j))
theorem ps_same {T U : cT} : ∀ (m i n : Nat), i + m = 40 → m < n → ((∀ j, i ≤ j → j < 40 → pC T U j) ∧ l_T_sameAs_2 T U n (pq i) = 1) ∨ ((¬ ∀ j, i ≤ j → j < 40 → pC T U j) ∧ l_T_sameAs_2 T U n (pq i) = 0)
  | m, i, 0, _, h => by omega
  | 0, i, n + 1, h1, h2 => by
    refine Or.inl ⟨fun j h3 h4 => by omega, ?_⟩
    rw [l_T_sameAs_2, ← pq_40, if_pos ((pq_le (by omega) (by omega)).mpr (by omega))]
  | m + 1, i, n + 1, h1, h2 => by
    have IH := ps_same (T := T) (U := U) m (i + 1) n (by omega) (by omega)
    rw [l_T_sameAs_2, ← pq_40, if_neg (fun h => by have := (pq_le (by omega) (by omega)).mp h; omega), pq_n (by omega), pq_inc]
    have next : pC T U i → ((∀ j, i ≤ j → j < 40 → pC T U j) ∧ l_T_sameAs_2 T U n (pq (i + 1)) = 1) ∨ ((¬ ∀ j, i ≤ j → j < 40 → pC T U j) ∧ l_T_sameAs_2 T U n (pq (i + 1)) = 0) := by
      intro hc
      rcases IH with ⟨a, b⟩ | ⟨a, b⟩
      · refine Or.inl ⟨fun j h3 h4 => ?_, b⟩
        by_cases e : j = i
        · rw [e]; exact hc
        · exact a j (by omega) h4
      · exact Or.inr ⟨fun hh => a (fun j h3 h4 => hh j (by omega) h4), b⟩
    by_cases e1 : T.1 i = U.1 i
    · rw [if_pos e1]
      by_cases e0 : T.1 i = 0
      · rw [if_pos e0]; exact next ⟨e1, fun h => absurd e0 h⟩
      · rw [if_neg e0]
        by_cases e2 : T.2.1 i = U.2.1 i
        · rw [if_pos e2]
          by_cases e3 : m_T_placeOf T (pq i) = m_T_placeOf U (pq i)
          · rw [if_pos e3]; exact next ⟨e1, fun _ => ⟨e2, e3⟩⟩
          · rw [if_neg e3]; exact Or.inr ⟨fun hh => e3 ((hh i (by omega) (by omega)).2 e0).2, rfl⟩
        · rw [if_neg e2]; exact Or.inr ⟨fun hh => e2 ((hh i (by omega) (by omega)).2 e0).1, rfl⟩
    · rw [if_neg e1]; exact Or.inr ⟨fun hh => e1 (hh i (by omega) (by omega)).1, rfl⟩
theorem ps_same' (T U : cT) : ((∀ j, j < 40 → pC T U j) ∧ m_T_sameAs T U = 1) ∨ ((¬ ∀ j, j < 40 → pC T U j) ∧ m_T_sameAs T U = 0) := by
  rcases ps_same (T := T) (U := U) 40 0 41 (by omega) (by omega) with ⟨a, b⟩ | ⟨a, b⟩
  · exact Or.inl ⟨fun j h => a j (by omega) h, b⟩
  · exact Or.inr ⟨fun hh => a (fun j _ h => hh j h), b⟩
theorem ps_same2 {T : cT} : ∀ (m i n : Nat), i + m = 40 → m < n → l_T_sameAs2_2 T n (pq i) = 1
  | m, i, 0, _, h => by omega
  | 0, i, n + 1, h1, h2 => by
    rw [l_T_sameAs2_2, ← pq_40, if_pos ((pq_le (by omega) (by omega)).mpr (by omega))]
  | m + 1, i, n + 1, h1, h2 => by
    have IH := ps_same2 (T := T) m (i + 1) n (by omega) (by omega)
    rw [l_T_sameAs2_2, ← pq_40, if_neg (fun h => by have := (pq_le (by omega) (by omega)).mp h; omega), pq_inc, if_pos rfl, if_pos rfl, if_pos rfl]
    by_cases e0 : T.1 (pq i).toNatClampNeg = 0
    · rw [if_pos e0]; exact IH
    · rw [if_neg e0]; exact IH
/-- when both trees are the same -/
def pDD (A B : pT) : Prop := (∀ x : Int32, 0 ≤ x.toInt → x.toInt < 40 → (pIn A x ↔ pIn B x)) ∧ ∀ p, p < 41 → kL A.1 (fun x => pE (A.2.1 x)) p = kL B.1 (fun x => pE (B.2.1 x)) p
theorem pE_inj {x y : Int32} (hx : x = -1 ∨ (0 ≤ x.toInt ∧ x.toInt < 40)) (hy : y = -1 ∨ (0 ≤ y.toInt ∧ y.toInt < 40)) (h : pE x = pE y) : x = y := by
  have hx4 : x.toInt < 40 := by rcases hx with h | h; rw [h, ti_m1]; omega; omega
  have hy4 : y.toInt < 40 := by rcases hy with h | h; rw [h, ti_m1]; omega; omega
  rcases hx with hx | hx
  · rw [hx, pE_b] at h
    rw [hx]; exact ((pE_40 hy4).mp h.symm).symm
  · rcases hy with hy | hy
    · rw [hy, pE_b] at h
      rw [hy]; exact (pE_40 hx4).mp h
    · rw [pE_t hx.1, pE_t hy.1] at h; exact h
theorem po_0 {T : cT} : m_T_placeOf T 0 = 0 := by
  unfold m_T_placeOf; rw [if_pos rfl]
theorem ps_dd {T U : cT} {A B : pT} (hA : pW A) (hB : pW B) (hT : rT T A) (hU : rT U B) : (∀ j, j < 40 → pC T U j) ↔ pDD A B := by
  have hz : ∀ x : Int32, 0 ≤ x.toInt → x.toInt < 40 → (T.1 x.toNatClampNeg = U.1 x.toNatClampNeg ↔ (pIn A x ↔ pIn B x)) := fun x h0 h1 => by
    have a1 := hT.2.2.2.1 x h0 h1
    have b1 := hU.2.2.2.1 x h0 h1
    rw [← a1, ← b1]
    rcases hT.1.2.2.2.1 _ (ti_ix h0 h1) with e | e <;> rcases hU.1.2.2.2.1 _ (ti_ix h0 h1) with g | g <;> rw [e, g]
    · exact ⟨fun _ => Iff.rfl, fun _ => rfl⟩
    · exact ⟨fun h => absurd h (by decide), fun h => absurd (h.mpr rfl) (by decide)⟩
    · exact ⟨fun h => absurd h (by decide), fun h => absurd (h.mp rfl) (by decide)⟩
    · exact ⟨fun _ => Iff.rfl, fun _ => rfl⟩
  constructor
  · intro h
    have hx : ∀ x : Int32, 0 ≤ x.toInt → x.toInt < 40 → pC T U x.toNatClampNeg := fun x h0 h1 => h _ (ti_ix h0 h1)
    have hin : ∀ x : Int32, 0 ≤ x.toInt → x.toInt < 40 → (pIn A x ↔ pIn B x) := fun x h0 h1 => (hz x h0 h1).mp (hx x h0 h1).1
    have hmem : ∀ x, x ∈ A.1 ↔ x ∈ B.1 := fun x => ⟨fun hm => by
      have r := hA.2.1 x hm
      exact pIn_l ((hin x (by omega) r.2).mp (Or.inr hm)) r.1, fun hm => by
      have r := hB.2.1 x hm
      exact pIn_l ((hin x (by omega) r.2).mpr (Or.inr hm)) r.1⟩
    have hpp : ∀ x ∈ A.1, A.2.1 x = B.2.1 x ∧ m_T_placeOf T x = m_T_placeOf U x := fun x hm => by
      have r := hA.2.1 x hm
      have hc := (hx x (by omega) r.2).2 (fun e => (pt_in0 hT (by omega) r.2).mp e (Or.inr hm))
      rw [(hT.2.2.2.2 x (Or.inr hm)).1, (hU.2.2.2.2 x (Or.inr ((hmem x).mp hm))).1, pq_of (by omega)] at hc
      exact hc
    refine ⟨hin, fun p hp => ?_⟩
    refine pl_eq (hA.1.filter _) (hB.1.filter _) (fun x => ?_) (fun x hxm q hq => ?_)
    · rw [kL_m, kL_m]
      constructor
      · rintro ⟨a, b⟩
        exact ⟨(hmem x).mp a, by rw [← (hpp x a).1]; exact b⟩
      · rintro ⟨a, b⟩
        have a' := (hmem x).mpr a
        exact ⟨a', by rw [(hpp x a').1]; exact b⟩
    · obtain ⟨a, b⟩ := kL_m.mp hxm
      have b' : pE (A.2.1 x) = pq p := b
      have a2 := (hmem x).mp a
      obtain ⟨q1, h1, l1, e1⟩ := pt_po' hA hT a
      obtain ⟨q2, h2, l2, e2⟩ := pt_po' hB hU a2
      have hqq : q1 = q2 := by
        have := (hpp x a).2
        rw [e1, e2] at this
        exact (pq_inj (by omega) (by omega)).mp this
      rw [pKd_kL hA (pA_par hA a) b'] at h1
      rw [pKd_kL hB (pA_par hB a2) (by rw [← (hpp x a).1]; exact b')] at h2
      have := pPl_u hq h1
      rw [this, hqq]; exact h2
  · rintro ⟨hin, hk⟩ j hj
    have hji : (pq j).toInt = j := pq_i (by omega)
    have hjn : (pq j).toNatClampNeg = j := pq_n (by omega)
    have h0 := (hz (pq j) (by omega) (by omega)).mpr (hin (pq j) (by omega) (by omega))
    rw [hjn] at h0
    refine ⟨h0, fun hne => ?_⟩
    have hAj : pIn A (pq j) := by
      have := mt (pt_in0 hT (x := pq j) (by omega) (by omega)).mpr (by rw [hjn]; exact hne)
      exact Classical.not_not.mp this
    have hBj := (hin (pq j) (by omega) (by omega)).mp hAj
    have eT := (hT.2.2.2.2 _ hAj).1
    have eU := (hU.2.2.2.2 _ hBj).1
    rw [hjn] at eT eU
    rw [eT, eU]
    by_cases e : pq j = 0
    · rw [e, hA.2.2.1.1, hB.2.2.1.1, po_0, po_0]; exact ⟨rfl, rfl⟩
    · have a := hAj.resolve_left e
      have a2 := hBj.resolve_left e
      obtain ⟨P, hP, eP⟩ := pE_r hA a
      have hm : pq j ∈ kL A.1 (fun x => pE (A.2.1 x)) P := kL_m.mpr ⟨a, eP⟩
      rw [hk P hP] at hm
      have eB : pE (B.2.1 (pq j)) = pq P := (kL_m.mp hm).2
      refine ⟨pE_inj (pA_par hA a) (pA_par hB a2) (by rw [eP, eB]), ?_⟩
      obtain ⟨q1, h1, l1, e1⟩ := pt_po' hA hT a
      obtain ⟨q2, h2, l2, e2⟩ := pt_po' hB hU a2
      rw [pKd_kL hA (pA_par hA a) eP, hk P hP] at h1
      rw [pKd_kL hB (pA_par hB a2) eB] at h2
      rw [e1, e2, pPl_u h1 h2]
/-! the reference's copies -/
theorem pa_49 {S : cM} {P s : Nat} (hP : P < 41) (hs : S.2.2.1.2.2.2.1 P = pq s) (h39 : s ≤ 39) : ∀ (m i n : Nat) (od : cA), i + m = s → m < n → (∀ j, 40 * P + i ≤ j → j < 40 * P + s → (l_M_alike_49 S (pq P) n (pq i) od).2 j = S.2.2.1.2.2.2.2 j) ∧ ∀ j, j < 40 * P + i → (l_M_alike_49 S (pq P) n (pq i) od).2 j = od j
  | m, i, 0, od, _, h => by omega
  | 0, i, n + 1, od, h1, h2 => by
    rw [l_M_alike_49, pq_n (n := P) (by omega), hs, if_pos ((pq_le (by omega) (by omega)).mpr (by omega))]
    exact ⟨fun j h3 h4 => by omega, fun j _ => rfl⟩
  | m + 1, i, n + 1, od, h1, h2 => by
    rw [l_M_alike_49, pq_n (n := P) (by omega), hs, if_neg (fun h => by have := (pq_le (by omega) (by omega)).mp h; omega), p40, pq_n (by omega), pq_inc]
    obtain ⟨a, b⟩ := pa_49 hP hs h39 m (i + 1) n (upd od (40 * P + i) (S.2.2.1.2.2.2.2 (40 * P + i))) (by omega) (by omega)
    refine ⟨fun j h3 h4 => ?_, fun j hj => ?_⟩
    · by_cases e : j = 40 * P + i
      · rw [b j (by omega), e, pk_us]
      · exact a j (by omega) h4
    · rw [b j (by omega), pk_un (by omega)]
theorem pa_28 {S : cM} {A : pT} (hW : pW A) (hr : rU S.2.2.1 A) : ∀ (m i n : Nat) (ok od : cA), i + m = 41 → m < n → (∀ p, p < i → ok p = S.2.2.1.2.2.2.1 p ∧ seg od (40 * p) (kL A.1 (fun x => pE (A.2.1 x)) p).length = kL A.1 (fun x => pE (A.2.1 x)) p) →
    ∀ p, p < 41 → (l_M_alike_28 S n (pq i) ok od).2.1 p = S.2.2.1.2.2.2.1 p ∧ seg (l_M_alike_28 S n (pq i) ok od).2.2 (40 * p) (kL A.1 (fun x => pE (A.2.1 x)) p).length = kL A.1 (fun x => pE (A.2.1 x)) p
  | m, i, 0, ok, od, _, h, _ => by omega
  | 0, i, n + 1, ok, od, h1, h2, h => fun p hp => by
    rw [l_M_alike_28, ← pq_40, if_pos ((pq_lt (by omega) (by omega)).mpr (by omega))]
    exact h p (by omega)
  | m + 1, i, n + 1, ok, od, h1, h2, h => fun p hp => by
    have h39 := pW_len hW
    have hi : (pq i).toNatClampNeg = i := pq_n (by omega)
    have hk := hr.2.2.2.2 i (by omega)
    have hle := kL_le A.1 (fun x => pE (A.2.1 x)) i
    rw [l_M_alike_28, ← pq_40, if_neg (fun h => by have := (pq_lt (by omega) (by omega)).mp h; omega), pq_inc, hi]
    obtain ⟨a, b⟩ := pa_49 (S := (S.1, S.2.1, S.2.2.1, S.2.2.2.1, (S.2.2.2.2.1, S.2.2.2.2.2.1, S.2.2.2.2.2.2.1, upd ok i (S.2.2.1.2.2.2.1 i), od, S.2.2.2.2.2.2.2.2.2))) (P := i) (by omega) hk.1 (by omega) (kL A.1 (fun x => pE (A.2.1 x)) i).length 0 41 od (by omega) (by omega)
    refine pa_28 hW hr m (i + 1) n _ _ (by omega) (by omega) (fun q hq => ?_) p hp
    by_cases e : q = i
    · rw [e, pk_us]
      refine ⟨rfl, ?_⟩
      have : seg (l_M_alike_49 (S.1, S.2.1, S.2.2.1, S.2.2.2.1, (S.2.2.2.2.1, S.2.2.2.2.2.1, S.2.2.2.2.2.2.1, upd ok i (S.2.2.1.2.2.2.1 i), od, S.2.2.2.2.2.2.2.2.2)) (pq i) 41 (pq 0) od).2 (40 * i) (kL A.1 (fun x => pE (A.2.1 x)) i).length = seg S.2.2.1.2.2.2.2 (40 * i) (kL A.1 (fun x => pE (A.2.1 x)) i).length := seg_congr fun j h3 h4 => a j (by omega) (by omega)
      exact this.trans hk.2
    · rw [pk_un e]
      obtain ⟨c1, c2⟩ := h q (by omega)
      refine ⟨c1, ?_⟩
      have hlq := kL_le A.1 (fun x => pE (A.2.1 x)) q
      have : seg (l_M_alike_49 (S.1, S.2.1, S.2.2.1, S.2.2.2.1, (S.2.2.2.2.1, S.2.2.2.2.2.1, S.2.2.2.2.2.2.1, upd ok i (S.2.2.1.2.2.2.1 i), od, S.2.2.2.2.2.2.2.2.2)) (pq i) 41 (pq 0) od).2 (40 * q) (kL A.1 (fun x => pE (A.2.1 x)) q).length = seg od (40 * q) (kL A.1 (fun x => pE (A.2.1 x)) q).length := seg_congr fun j h3 h4 => b j (by omega)
      exact this.trans c2
theorem p_nar {x : Int32} (h : x = 0 ∨ x = 1) : vp_nar .boolean x = x := by
  rcases h with rfl | rfl <;> decide
theorem pa_98 {S : cM} (h01 : ∀ j, j < 40 → S.2.2.1.1 j = 0 ∨ S.2.2.1.1 j = 1) : ∀ (m i n : Nat) (ot : cA), i + m = 40 → m < n → (∀ j, j < i → ot j = S.2.2.1.1 j) → ∀ j, j < 40 → (l_M_alike_98 S n (pq i) ot).2 j = S.2.2.1.1 j
  | m, i, 0, ot, _, h, _ => by omega
  | 0, i, n + 1, ot, h1, h2, h => fun j hj => by
    rw [l_M_alike_98, ← pq_40, if_pos ((pq_le (by omega) (by omega)).mpr (by omega))]
    exact h j (by omega)
  | m + 1, i, n + 1, ot, h1, h2, h => fun j hj => by
    rw [l_M_alike_98, ← pq_40, if_neg (fun h => by have := (pq_le (by omega) (by omega)).mp h; omega), pq_inc, pq_n (by omega), p_nar (h01 i (by omega))]
    refine pa_98 h01 m (i + 1) n _ (by omega) (by omega) (fun q hq => ?_) j hj
    by_cases e : q = i
    · rw [e, pk_us]
    · rw [pk_un e]; exact h q (by omega)
theorem pa_186 {S : cM} {P s : Nat} (hP : P < 41) (hs : S.2.2.1.2.2.2.1 P = pq s) (h39 : s ≤ 39) : ∀ (m i n : Nat), i + m = s → m < n → ((∀ k, i ≤ k → k < s → S.2.2.2.2.2.2.2.2.1 (40 * P + k) = S.2.2.1.2.2.2.2 (40 * P + k)) ∧ (l_M_alike_186 S (pq P) n (pq i)).1 = 0) ∨ ((¬ ∀ k, i ≤ k → k < s → S.2.2.2.2.2.2.2.2.1 (40 * P + k) = S.2.2.1.2.2.2.2 (40 * P + k)) ∧ (l_M_alike_186 S (pq P) n (pq i)).1 = 1)
  | m, i, 0, _, h => by omega
  | 0, i, n + 1, h1, h2 => by
    refine Or.inl ⟨fun k h3 h4 => by omega, ?_⟩
    rw [l_M_alike_186, pq_n (n := P) (by omega), hs, if_pos ((pq_le (by omega) (by omega)).mpr (by omega))]
  | m + 1, i, n + 1, h1, h2 => by
    have IH := pa_186 hP hs h39 m (i + 1) n (by omega) (by omega)
    rw [l_M_alike_186, pq_n (n := P) (by omega), hs, if_neg (fun h => by have := (pq_le (by omega) (by omega)).mp h; omega), p40, pq_n (by omega), pq_inc]
    by_cases e : S.2.2.2.2.2.2.2.2.1 (40 * P + i) = S.2.2.1.2.2.2.2 (40 * P + i)
    · rw [if_pos e]
      rcases IH with ⟨a, b⟩ | ⟨a, b⟩
      · refine Or.inl ⟨fun k h3 h4 => ?_, b⟩
        by_cases ek : k = i
        · rw [ek]; exact e
        · exact a k (by omega) h4
      · exact Or.inr ⟨fun hh => a (fun k h3 h4 => hh k (by omega) h4), b⟩
    · rw [if_neg e]; exact Or.inr ⟨fun hh => e (hh i (by omega) (by omega)), rfl⟩
theorem pa_160 {S : cM} {A B : pT} (hA : pW A) (hB : pW B) (hU : rU S.2.2.1 B) (hold : ∀ p, p < 41 → S.2.2.2.2.2.2.2.1 p = pq (kL A.1 (fun x => pE (A.2.1 x)) p).length ∧ seg S.2.2.2.2.2.2.2.2.1 (40 * p) (kL A.1 (fun x => pE (A.2.1 x)) p).length = kL A.1 (fun x => pE (A.2.1 x)) p) : ∀ (m i n : Nat), i + m = 41 → m < n → ((∀ p, i ≤ p → p < 41 → kL A.1 (fun x => pE (A.2.1 x)) p = kL B.1 (fun x => pE (B.2.1 x)) p) ∧ l_M_alike_160 n (pq i) S = (1, S)) ∨ ((¬ ∀ p, i ≤ p → p < 41 → kL A.1 (fun x => pE (A.2.1 x)) p = kL B.1 (fun x => pE (B.2.1 x)) p) ∧ l_M_alike_160 n (pq i) S = (0, S))
  | m, i, 0, _, h => by omega
  | 0, i, n + 1, h1, h2 => by
    refine Or.inl ⟨fun p h3 h4 => by omega, ?_⟩
    rw [l_M_alike_160, ← pq_40, if_pos ((pq_lt (by omega) (by omega)).mpr (by omega))]
  | m + 1, i, n + 1, h1, h2 => by
    have IH := pa_160 hA hB hU hold m (i + 1) n (by omega) (by omega)
    have hA39 := pW_len hA
    have hB39 := pW_len hB
    have hkA := kL_le A.1 (fun x => pE (A.2.1 x)) i
    have hkB := kL_le B.1 (fun x => pE (B.2.1 x)) i
    have hk := hU.2.2.2.2 i (by omega)
    obtain ⟨o1, o2⟩ := hold i (by omega)
    rw [l_M_alike_160, ← pq_40, if_neg (fun h => by have := (pq_lt (by omega) (by omega)).mp h; omega), pq_inc, pq_n (by omega), o1, hk.1]
    by_cases el : (kL A.1 (fun x => pE (A.2.1 x)) i).length = (kL B.1 (fun x => pE (B.2.1 x)) i).length
    · rw [if_pos (by rw [el])]
      have h186 := pa_186 (S := S) (P := i) (by omega) hk.1 (by omega) (kL B.1 (fun x => pE (B.2.1 x)) i).length 0 41 (by omega) (by omega)
      have heq : (∀ k, 0 ≤ k → k < (kL B.1 (fun x => pE (B.2.1 x)) i).length → S.2.2.2.2.2.2.2.2.1 (40 * i + k) = S.2.2.1.2.2.2.2 (40 * i + k)) ↔ kL A.1 (fun x => pE (A.2.1 x)) i = kL B.1 (fun x => pE (B.2.1 x)) i := by
        constructor
        · intro hh
          rw [← o2, ← hk.2, el]
          exact seg_congr fun j h3 h4 => by
            have := hh (j - 40 * i) (by omega) (by omega)
            rw [show 40 * i + (j - 40 * i) = j by omega] at this
            exact this
        · intro hh k _ h4
          have g1 := seg_get S.2.2.2.2.2.2.2.2.1 (40 * i) (kL A.1 (fun x => pE (A.2.1 x)) i).length k (by omega)
          have g2 := seg_get S.2.2.1.2.2.2.2 (40 * i) (kL B.1 (fun x => pE (B.2.1 x)) i).length k h4
          rw [o2, hh] at g1
          rw [hk.2] at g2
          rw [g1] at g2
          exact Option.some.inj g2
      rw [heq] at h186
      have p0 : (l_M_alike_186 S (pq i) 41 0) = (l_M_alike_186 S (pq i) 41 (pq 0)) := rfl
      rw [p0]
      rcases h186 with ⟨a, b⟩ | ⟨a, b⟩
      · rw [b, if_pos rfl]
        rcases IH with ⟨c1, c2⟩ | ⟨c1, c2⟩
        · refine Or.inl ⟨fun p h3 h4 => ?_, c2⟩
          by_cases e : p = i
          · rw [e]; exact a
          · exact c1 p (by omega) h4
        · exact Or.inr ⟨fun hh => c1 (fun p h3 h4 => hh p (by omega) h4), c2⟩
      · rw [b, if_neg (by decide)]
        exact Or.inr ⟨fun hh => a (hh i (by omega) (by omega)), rfl⟩
    · rw [if_neg (fun e => el ((pq_inj (by omega) (by omega)).mp e))]
      exact Or.inr ⟨fun hh => el (by rw [hh i (by omega) (by omega)]), rfl⟩
theorem pa_129 {S : cM} {A B : pT} (hA : pW A) (hB : pW B) (hU : rU S.2.2.1 B) (hold : ∀ p, p < 41 → S.2.2.2.2.2.2.2.1 p = pq (kL A.1 (fun x => pE (A.2.1 x)) p).length ∧ seg S.2.2.2.2.2.2.2.2.1 (40 * p) (kL A.1 (fun x => pE (A.2.1 x)) p).length = kL A.1 (fun x => pE (A.2.1 x)) p) : ∀ (m i n : Nat), i + m = 40 → m < n → (((∀ j, i ≤ j → j < 40 → S.2.2.2.2.2.2.2.2.2 j = S.2.2.1.1 j) ∧ ∀ p, p < 41 → kL A.1 (fun x => pE (A.2.1 x)) p = kL B.1 (fun x => pE (B.2.1 x)) p) ∧ l_M_alike_129 n (pq i) S = (1, S)) ∨ ((¬ ((∀ j, i ≤ j → j < 40 → S.2.2.2.2.2.2.2.2.2 j = S.2.2.1.1 j) ∧ ∀ p, p < 41 → kL A.1 (fun x => pE (A.2.1 x)) p = kL B.1 (fun x => pE (B.2.1 x)) p)) ∧ l_M_alike_129 n (pq i) S = (0, S))
  | m, i, 0, _, h => by omega
  | 0, i, n + 1, h1, h2 => by
    rw [l_M_alike_129, ← pq_40, if_pos ((pq_le (by omega) (by omega)).mpr (by omega))]
    rcases pa_160 hA hB hU hold 41 0 42 (by omega) (by omega) with ⟨a, b⟩ | ⟨a, b⟩
    · exact Or.inl ⟨⟨fun j h3 h4 => by omega, fun p hp => a p (by omega) hp⟩, b⟩
    · exact Or.inr ⟨fun hh => a (fun p _ hp => hh.2 p hp), b⟩
  | m + 1, i, n + 1, h1, h2 => by
    have IH := pa_129 hA hB hU hold m (i + 1) n (by omega) (by omega)
    rw [l_M_alike_129, ← pq_40, if_neg (fun h => by have := (pq_le (by omega) (by omega)).mp h; omega), pq_inc, pq_n (by omega)]
    by_cases e : S.2.2.2.2.2.2.2.2.2 i = S.2.2.1.1 i
    · rw [if_pos e]
      rcases IH with ⟨a, b⟩ | ⟨a, b⟩
      · refine Or.inl ⟨⟨fun j h3 h4 => ?_, a.2⟩, b⟩
        by_cases ej : j = i
        · rw [ej]; exact e
        · exact a.1 j (by omega) h4
      · exact Or.inr ⟨fun hh => a ⟨fun j h3 h4 => hh.1 j (by omega) h4, hh.2⟩, b⟩
    · rw [if_neg e]; exact Or.inr ⟨fun hh => e (hh.1 i (by omega) (by omega)), rfl⟩
def pA28 (S : cM) : Int32 × cA × cA := l_M_alike_28 S 42 0 S.2.2.2.2.2.2.2.1 S.2.2.2.2.2.2.2.2.1
def pX2 (S : cM) : cM := (S.1, S.2.1, S.2.2.1, S.2.2.2.1, (S.2.2.2.2.1, S.2.2.2.2.2.1, S.2.2.2.2.2.2.1, (pA28 S).2.1, (pA28 S).2.2, S.2.2.2.2.2.2.2.2.2))
def pX3 (S : cM) : cM := (S.1, S.2.1, S.2.2.1, S.2.2.2.1, (S.2.2.2.2.1, S.2.2.2.2.2.1, S.2.2.2.2.2.2.1, (pA28 S).2.1, (pA28 S).2.2, (l_M_alike_98 (pX2 S) 41 0 S.2.2.2.2.2.2.2.2.2).2))
theorem alike_eq (M : cM) (x1 x2 : Int32) : m_M_alike M x1 x2 = (if m_M_isNode x1 = 0 then (0, pZ M) else if m_M_isNode x2 = 0 then (0, pZ M) else l_M_alike_129 41 0 (m_M_build (pX3 (m_M_build (pZ M) x1)) x2)) := by
  unfold m_M_alike pX3 pX2 pA28 pZ; rfl
theorem q_alike0 {L : cL} {F : Nat → cP} {M : cM} {c md : Nat} (h : pREL L F M c md) (x1 x2 : Int32) : ((0 ≤ x1.toInt ∧ x1.toInt < 4) → okBuild (pZ M) x1) ∧ ((0 ≤ x1.toInt ∧ x1.toInt < 4) → (0 ≤ x2.toInt ∧ x2.toInt < 4) → ∀ X : cX, okBuild ((m_M_build (pZ M) x1).1, (m_M_build (pZ M) x1).2.1, (m_M_build (pZ M) x1).2.2.1, (m_M_build (pZ M) x1).2.2.2.1, X) x2)
    ∧ pREL L F (m_M_alike M x1 x2).2 c md ∧ (((0 ≤ x1.toInt ∧ x1.toInt < 4) ∧ (0 ≤ x2.toInt ∧ x2.toInt < 4)) → (pDD (pRes L c (F (pI x1)).1).1 (pRes L c (F (pI x2)).1).1 ∧ (m_M_alike M x1 x2).1 = 1) ∨ (¬ pDD (pRes L c (F (pI x1)).1).1 (pRes L c (F (pI x2)).1).1 ∧ (m_M_alike M x1 x2).1 = 0)) ∧ (¬ ((0 ≤ x1.toInt ∧ x1.toInt < 4) ∧ (0 ≤ x2.toInt ∧ x2.toInt < 4)) → (m_M_alike M x1 x2).1 = 0) := by
  have h4 := pI_4 x1
  have h42 := pI_4 x2
  obtain ⟨b1, b2, b3, b4⟩ := pw_build (pZ_R h) h4
  have anyX : ∀ X : cX, pREL L F ((m_M_build (pZ M) (pq (pI x1))).1, (m_M_build (pZ M) (pq (pI x1))).2.1, (m_M_build (pZ M) (pq (pI x1))).2.2.1, (m_M_build (pZ M) (pq (pI x1))).2.2.2.1, X) c md := fun X => b2
  refine ⟨fun g1 => by rw [(pI_q g1).1] at b1; exact b1, fun g1 g2 X => ?_, ?_⟩
  · have := (pw_build (anyX X) h42).1
    rw [(pI_q g1).1, (pI_q g2).1] at this
    exact this
  · rw [alike_eq]
    by_cases g1 : (0 ≤ x1.toInt ∧ x1.toInt < 4)
    · rw [if_neg (fun e => mn_0.mp e g1)]
      by_cases g2 : (0 ≤ x2.toInt ∧ x2.toInt < 4)
      · rw [if_neg (fun e => mn_0.mp e g2)]
        rw [(pI_q g1).1] at b2 b3
        have hA := (pRes_G h.1.1 (F (pI x1)).1).1
        have hB := (pRes_G h.1.1 (F (pI x2)).1).1
        obtain ⟨S, hS⟩ : ∃ S, S = m_M_build (pZ M) x1 := ⟨_, rfl⟩
        rw [← hS] at b2 b3 ⊢
        have b2' : pREL L F (pX3 S) c md := b2
        obtain ⟨d1, d2, d3, d4⟩ := pw_build b2' h42
        have dX := (pb_build b2'.1.1 b2'.1.2.1 (b2'.1.2.2.2.2.2 _ h42).2.2.2.1 (b2'.1.2.2.2.2.2 _ h42).1 (b2'.2.2 _ h42)).2.2.2.1
        rw [(pI_q g2).1] at d2 d3 dX
        have h28 := pa_28 hA b3.1 41 0 42 S.2.2.2.2.2.2.2.1 S.2.2.2.2.2.2.2.2.1 (by omega) (by omega) (fun p hp => by omega)
        have h98 := pa_98 (S := pX2 S) b3.1.1 40 0 41 S.2.2.2.2.2.2.2.2.2 (by omega) (by omega) (fun j hj => by omega)
        have hold : ∀ p, p < 41 → (m_M_build (pX3 S) x2).2.2.2.2.2.2.2.1 p = pq (kL (pRes L c (F (pI x1)).1).1.1 (fun x => pE ((pRes L c (F (pI x1)).1).1.2.1 x)) p).length ∧ seg (m_M_build (pX3 S) x2).2.2.2.2.2.2.2.2.1 (40 * p) (kL (pRes L c (F (pI x1)).1).1.1 (fun x => pE ((pRes L c (F (pI x1)).1).1.2.1 x)) p).length = kL (pRes L c (F (pI x1)).1).1.1 (fun x => pE ((pRes L c (F (pI x1)).1).1.2.1 x)) p := fun p hp => by
          rw [dX]
          obtain ⟨w1, w2⟩ := h28 p hp
          exact ⟨w1.trans (b3.1.2.2.2.2 p hp).1, w2⟩
        have h129 := pa_129 hA hB d3.1 hold 40 0 41 (by omega) (by omega)
        have hth : (∀ j, 0 ≤ j → j < 40 → (m_M_build (pX3 S) x2).2.2.2.2.2.2.2.2.2 j = (m_M_build (pX3 S) x2).2.2.1.1 j) ↔ ∀ x : Int32, 0 ≤ x.toInt → x.toInt < 40 → (pIn (pRes L c (F (pI x1)).1).1 x ↔ pIn (pRes L c (F (pI x2)).1).1 x) := by
          rw [dX]
          have eo : ∀ j, j < 40 → (pX3 S).2.2.2.2.2.2.2.2.2 j = S.2.2.1.1 j := fun j hj => h98 j hj
          constructor
          · intro hh x g0 g1
            have hn := ti_ix (n := 40) g0 g1
            have := hh x.toNatClampNeg (by omega) hn
            rw [eo _ hn] at this
            rw [← b3.1.2.1 x g0 g1, ← d3.1.2.1 x g0 g1, this]
          · intro hh j _ hj
            have hji : (pq j).toInt = j := pq_i (by omega)
            have hjn : (pq j).toNatClampNeg = j := pq_n (by omega)
            have := hh (pq j) (by omega) (by omega)
            rw [← b3.1.2.1 (pq j) (by omega) (by omega), ← d3.1.2.1 (pq j) (by omega) (by omega), hjn] at this
            rw [eo j hj]
            rcases b3.1.1 j hj with e | e <;> rcases d3.1.1 j hj with e2 | e2 <;> rw [e, e2] at this ⊢
            · exact absurd (this.mpr rfl) (by decide)
            · exact absurd (this.mp rfl) (by decide)
        rw [hth] at h129
        have h129' : (pDD (pRes L c (F (pI x1)).1).1 (pRes L c (F (pI x2)).1).1 ∧ l_M_alike_129 41 0 (m_M_build (pX3 S) x2) = (1, m_M_build (pX3 S) x2)) ∨ (¬ pDD (pRes L c (F (pI x1)).1).1 (pRes L c (F (pI x2)).1).1 ∧ l_M_alike_129 41 0 (m_M_build (pX3 S) x2) = (0, m_M_build (pX3 S) x2)) := h129
        rcases h129' with ⟨a, b⟩ | ⟨a, b⟩
        · rw [b]; exact ⟨d2, fun _ => Or.inl ⟨a, rfl⟩, fun hh => absurd ⟨g1, g2⟩ hh⟩
        · rw [b]; exact ⟨d2, fun _ => Or.inr ⟨a, rfl⟩, fun hh => absurd ⟨g1, g2⟩ hh⟩
      · rw [if_pos (mn_0.mpr g2)]; exact ⟨h, fun hh => absurd hh.2 g2, fun _ => rfl⟩
    · rw [if_pos (mn_0.mpr g1)]; exact ⟨h, fun hh => absurd hh.1 g1, fun _ => rfl⟩
theorem q_alike {L : cL} {F : Nat → cP} {M : cM} {c md : Nat} (h : pREL L F M c md) (x1 x2 : Int32) (n o : Nat) (hn : n < 4) (ho : o < 4) (hn1 : (0 ≤ x1.toInt ∧ x1.toInt < 4) → pq n = x1) (ho1 : (0 ≤ x2.toInt ∧ x2.toInt < 4) → pq o = x2) : m_B_alike L (F n) (F o) x1 x2 = (m_M_alike M x1 x2).1 := by
  obtain ⟨-, -, -, h1, h2⟩ := q_alike0 h x1 x2
  unfold m_B_alike
  by_cases g1 : (0 ≤ x1.toInt ∧ x1.toInt < 4)
  · rw [if_neg (fun e => bn_0.mp e g1)]
    by_cases g2 : (0 ≤ x2.toInt ∧ x2.toInt < 4)
    · rw [if_neg (fun e => bn_0.mp e g2)]
      have en : n = pI x1 := by
        have := hn1 g1
        rw [← (pI_q g1).1] at this
        exact (pq_inj (by omega) (by have := pI_4 x1; omega)).mp this
      have eo : o = pI x2 := by
        have := ho1 g2
        rw [← (pI_q g2).1] at this
        exact (pq_inj (by omega) (by have := pI_4 x2; omega)).mp this
      subst en; subst eo
      have hdd := ps_dd (pRes_G h.1.1 (F (pI x1)).1).1 (pRes_G h.1.1 (F (pI x2)).1).1 (h.2.1 _ hn).1.1 (h.2.1 _ ho).1.1
      have hs := ps_same' (F (pI x1)).2.1 (F (pI x2)).2.1
      rw [hdd] at hs
      rcases hs with ⟨a, b⟩ | ⟨a, b⟩
      · rw [b, if_neg (by decide)]
        rcases h1 ⟨g1, g2⟩ with ⟨c1, c2⟩ | ⟨c1, c2⟩
        · exact c2.symm
        · exact absurd a c1
      · rw [b, if_pos rfl]
        rcases h1 ⟨g1, g2⟩ with ⟨c1, c2⟩ | ⟨c1, c2⟩
        · exact absurd c1 a
        · exact c2.symm
    · rw [if_pos (bn_0.mpr g2), h2 (fun hh => g2 hh.2)]
  · rw [if_pos (bn_0.mpr g1), h2 (fun hh => g1 hh.1)]
theorem q_alike2 {L : cL} {F : Nat → cP} {M : cM} {c md : Nat} (h : pREL L F M c md) (x1 : Int32) (n : Nat) : m_B_alike2 L (F n) x1 = (m_M_alike M x1 x1).1 := by
  obtain ⟨-, -, -, h1, h2⟩ := q_alike0 h x1 x1
  unfold m_B_alike2
  by_cases g1 : (0 ≤ x1.toInt ∧ x1.toInt < 4)
  · rw [if_neg (fun e => bn_0.mp e g1), if_neg (fun e => bn_0.mp e g1)]
    have hs : m_T_sameAs2 (F n).2.1 = 1 := ps_same2 40 0 41 (by omega) (by omega)
    rw [hs, if_neg (by decide)]
    rcases h1 ⟨g1, g1⟩ with ⟨c1, c2⟩ | ⟨c1, c2⟩
    · exact c2.symm
    · exact absurd ⟨fun x _ _ => Iff.rfl, fun p _ => rfl⟩ c1
  · rw [if_pos (bn_0.mpr g1), h2 (fun hh => g1 hh.1)]
