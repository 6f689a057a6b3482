/-! the steps of the tree of the people -/
theorem pt_take {T : cT} {A : pT} (hW : pW A) (hr : rT T A) (o : Int32) : ∃ f' : cA, m_T_takeOut T o = (T.1, T.2.1, T.2.2.1, f', pq (pRem A.1 o).length) ∧ seg f' 0 (pRem A.1 o).length = pRem A.1 o ∧ ∀ j, j < 40 → 0 ≤ (f' j).toInt ∧ (f' j).toInt < 40 := by
  have hl := pW_len hW
  obtain ⟨f', k', a, b, c⟩ := pt_to (x1 := o) hr.2.1 hl A.1.length 0 0 41 T.2.2.2.1 (by omega) (by omega) (by omega)
  rw [hr.2.2.1, seg_0, List.nil_append] at b c
  have a' : m_T_takeOut T o = (T.1, T.2.1, T.2.2.1, f', pq k') := a
  have ok := to_ok' (x1 := o) hr.1
  subst b
  rw [a'] at ok
  exact ⟨f', a', c, ok.2.1⟩
theorem pt_put {T : cT} {l : List Int32} {o v : Int32} {sp : Nat} (hs : T.2.2.2.2 = pq l.length) (hl : seg T.2.2.2.1 0 l.length = l) (h38 : l.length ≤ 38) (hsp : sp ≤ l.length) (ho : 0 ≤ o.toInt ∧ o.toInt < 40) (hf : ∀ j, j < 40 → 0 ≤ (T.2.2.2.1 j).toInt ∧ (T.2.2.2.1 j).toInt < 40) :
    ∃ f' : cA, m_T_putAt T (pq sp) o v = (T.1, upd T.2.1 o.toNatClampNeg v, T.2.2.1, f', pq (l.length + 1)) ∧ seg f' 0 (l.length + 1) = l.take sp ++ o :: l.drop sp ∧ ∀ j, j < 40 → 0 ≤ (f' j).toInt ∧ (f' j).toInt < 40 := by
  obtain ⟨m, hm⟩ : ∃ m, l.length = sp + m := ⟨l.length - sp, by omega⟩
  obtain ⟨f', a, b, c, d, e⟩ := pt_pu (T := T) (x2 := o) (x3 := v) (sp := sp) (by omega) m 41 T.2.2.2.1 (by omega) (by omega)
  refine ⟨f', ?_, ?_, pt_pu_rg ho hf b c d e⟩
  · show l_T_putAt_6 T (pq sp) o v 41 T.2.2.2.2 T.2.2.2.1 = _
    rw [hs, hm, a, hs, pq_inc, hm]
  · rw [hm, pt_pu_seg b c d]
    have h1 : l = seg T.2.2.2.1 0 sp ++ seg T.2.2.2.1 sp m := by
      rw [← hl, hm, seg_app, Nat.zero_add]
    have h2 : l.take sp = seg T.2.2.2.1 0 sp := by
      rw [h1, List.take_left' (seg_len _ _ _)]
    have h3 : l.drop sp = seg T.2.2.2.1 sp m := by
      rw [h1, List.drop_left' (seg_len _ _ _)]
    rw [h2, h3]
theorem pt_upd {g : cA} {G : Int32 → Int32} {o u x : Int32} (ho : 0 ≤ o.toInt) (hx : 0 ≤ x.toInt) (h : x ≠ o → g x.toNatClampNeg = G x) : upd g o.toNatClampNeg u x.toNatClampNeg = pU G o u x := by
  by_cases e : x = o
  · rw [e, pk_us, pU_s]
  · rw [pk_un (fun e2 => e (pn_inj hx ho e2)), pU_n e, h e]
theorem pt_asm {T : cT} {A : pT} (hW : pW A) (hr : rT T A) {o v : Int32} (ho : 1 ≤ o.toInt ∧ o.toInt < 40) (hv : -1 ≤ v.toInt ∧ v.toInt < 40) {l : List Int32} {f' t' w' : cA} {W' : Int32 → Int32} (hl : ∀ x, x ∈ l ↔ x ∈ A.1 ∨ x = o) (hf : ∀ j, j < 40 → 0 ≤ (f' j).toInt ∧ (f' j).toInt < 40) (hs : seg f' 0 l.length = l) (h39 : l.length ≤ 39)
    (ht1 : ∀ j, j < 40 → t' j = 0 ∨ t' j = 1) (ht : ∀ x : Int32, 0 ≤ x.toInt → x.toInt < 40 → (t' x.toNatClampNeg = 1 ↔ x = 0 ∨ x ∈ l)) (hw1 : ∀ j, 1 ≤ j → j < 40 → 0 ≤ (w' j).toInt ∧ (w' j).toInt < 40) (hw : ∀ x, x = 0 ∨ x ∈ l → w' x.toNatClampNeg = W' x) {n : Nat} (hn : n = l.length) :
    rT (t', upd T.2.1 o.toNatClampNeg v, w', f', pq n) (l, pU A.2.1 o v, W') := by
  subst hn
  refine ⟨⟨fun j hj => ?_, hf, ?_, ht1, hw1⟩, rfl, hs, ht, fun x hx => ⟨?_, hw x hx⟩⟩
  · show -1 ≤ (upd T.2.1 o.toNatClampNeg v j).toInt ∧ (upd T.2.1 o.toNatClampNeg v j).toInt < 40
    by_cases e : j = o.toNatClampNeg
    · rw [e, pk_us]; exact hv
    · rw [pk_un e]; exact hr.1.1 j hj
  · show 0 ≤ (pq l.length).toInt ∧ (pq l.length).toInt ≤ 39
    rw [pq_i (by omega)]; omega
  · have hx0 : 0 ≤ x.toInt := by
      rcases hx with rfl | hx
      · rw [ti_0]; omega
      · rcases (hl x).mp hx with h | h
        · have := hW.2.1 x h; omega
        · rw [h]; omega
    refine pt_upd (by omega) hx0 (fun hne => (hr.2.2.2.2 x ?_).1)
    rcases hx with h | h
    · exact Or.inl h
    · rcases (hl x).mp h with h | h
      · exact Or.inr h
      · exact absurd h hne
theorem pt_len {A : pT} (hW : pW A) {o : Int32} (ho : 1 ≤ o.toInt ∧ o.toInt < 40) : (pRem A.1 o).length ≤ 38 := by
  have := pg_i (n := 39) (pApp_d (pRem_d hW.1) (pRem_o (l := A.1) (o := o))) (fun x hx => by
    rcases List.mem_append.mp hx with h | h
    · have := hW.2.1 x (pRem_m.mp h).1; omega
    · rw [List.mem_singleton] at h; rw [h]; omega)
  rw [List.length_append] at this
  simp at this
  omega
theorem pt_may_ne {T : cT} {A : pT} (hr : rT T A) (W' : Int32 → Int32) {o : Int32} (ho : o ∈ A.1) {l : List Int32} (hl : ∀ x, x ∈ l ↔ x ∈ A.1) : ∀ x : Int32, 0 ≤ x.toInt → x.toInt < 40 → (T.1 x.toNatClampNeg = 1 ↔ x = 0 ∨ x ∈ l) := fun x h0 h1 => by
  rw [hr.2.2.2.1 x h0 h1, hl]; exact Iff.rfl
theorem pt_wasr {T : cT} {A : pT} (hr : rT T A) {o t : Int32} (ht : 0 ≤ t.toInt ∧ t.toInt < 40) : ∀ j, 1 ≤ j → j < 40 → 0 ≤ (upd T.2.2.1 o.toNatClampNeg t j).toInt ∧ (upd T.2.2.1 o.toNatClampNeg t j).toInt < 40 := fun j h1 h2 => by
  by_cases e : j = o.toNatClampNeg
  · rw [e, pk_us]; exact ht
  · rw [pk_un e]; exact hr.1.2.2.2.2 j h1 h2
/-- moveTo -/
theorem pt_move {T : cT} {A : pT} (hW : pW A) (hr : rT T A) {o t b : Int32} (ho : 1 ≤ o.toInt ∧ o.toInt < 40) (ht : 0 ≤ t.toInt ∧ t.toInt < 40) : (m_T_moveTo T o t b).1 = (pStep A 1 o t b).1 ∧ rT (m_T_moveTo T o t b).2 (pStep A 1 o t b).2 := by
  have e0 : pStep A 1 o t b = pIf (pMay A o t) (1, pMove A o t b) (0, A) := rfl
  rw [e0]
  unfold m_T_moveTo
  rcases pt_may hW hr (o := o) (t := t) (by omega) ht with ⟨h, e⟩ | ⟨h, e⟩
  · rw [pIf_t h, e, if_neg (by decide)]
    have hoA := pIn_l h.1 ho.1
    obtain ⟨f1, a1, a2, a3⟩ := pt_take hW hr o
    have h38 := pt_len hW ho
    rw [a1]
    have hb : ∀ g : cA, ∃ sp : Nat, m_T_spotBehind (T.1, T.2.1, g, f1, pq (pRem A.1 o).length) b t = pq sp ∧ sp ≤ (pRem A.1 o).length ∧ pIns (pRem A.1 o) A.2.1 b t o = (pRem A.1 o).take sp ++ o :: (pRem A.1 o).drop sp := by
      intro g
      have hsb := pt_sb (T := (T.1, T.2.1, g, f1, pq (pRem A.1 o).length)) (b := b) (t := t) (s := (pRem A.1 o).length) rfl (by omega) (pRem A.1 o).length 0 41 (by omega) (by omega)
      have hpar : b ∈ pRem A.1 o → T.2.1 b.toNatClampNeg = A.2.1 b := fun hb => (hr.2.2.2.2 b (Or.inr (pRem_m.mp hb).1)).1
      rcases hsb with ⟨h1, l1, l2, h2, h3, h4⟩ | ⟨h1, h2⟩
      · have h2' : pRem A.1 o = l1 ++ b :: l2 := by rw [← h2]; exact a2.symm
        have hbm : b ∈ pRem A.1 o := by rw [h2']; simp
        have h1' : A.2.1 b = t := by rw [← hpar hbm]; exact h1
        refine ⟨l1.length + 1, ?_, ?_, ?_⟩
        · rw [show l1.length + 1 = 0 + l1.length + 1 by omega]; exact h4
        · rw [h2']; simp
        · unfold pIns
          rw [if_pos ⟨hbm, h1'⟩, h2', pAft_at h3]
          have e1 : (l1 ++ b :: l2).take (l1.length + 1) = l1 ++ [b] := by
            rw [show l1 ++ b :: l2 = (l1 ++ [b]) ++ l2 by simp]
            exact List.take_left' (by simp)
          have e2 : (l1 ++ b :: l2).drop (l1.length + 1) = l2 := by
            rw [show l1 ++ b :: l2 = (l1 ++ [b]) ++ l2 by simp]
            exact List.drop_left' (by simp)
          rw [e1, e2]
      · refine ⟨0, h2, by omega, ?_⟩
        unfold pIns
        rw [if_neg]
        · rfl
        · intro hh
          refine h1 ⟨?_, ?_⟩
          · show b ∈ seg f1 0 _
            rw [a2]; exact hh.1
          · show T.2.1 b.toNatClampNeg = t
            rw [hpar hh.1]; exact hh.2
    obtain ⟨sp, b1, b2, b3⟩ := hb T.2.2.1
    rw [b1]
    obtain ⟨f2, c1, c2, c3⟩ := pt_put (T := (T.1, T.2.1, T.2.2.1, f1, pq (pRem A.1 o).length)) (l := pRem A.1 o) (o := o) (v := t) (sp := sp) rfl a2 h38 b2 (by omega) a3
    rw [c1]
    refine ⟨rfl, ?_⟩
    rw [← b3] at c2
    have hlen : (pIns (pRem A.1 o) A.2.1 b t o).length = (pRem A.1 o).length + 1 := by rw [← c2, seg_len]
    refine pt_asm hW hr ho (by omega) (l := pIns (pRem A.1 o) A.2.1 b t o) (fun x => ?_) c3 (by rw [hlen]; exact c2) (by omega) hr.1.2.2.2.1 (pt_may_ne hr A.2.2 hoA (pL_ins hoA)) (pt_wasr hr ht) (fun x hx => ?_) hlen.symm
    · rw [pL_ins hoA]
      exact ⟨Or.inl, fun h => h.elim id (fun h => by rw [h]; exact hoA)⟩
    · have hx' : pIn A x := by
        rcases hx with h | h
        · exact Or.inl h
        · exact Or.inr ((pL_ins hoA x).mp h)
      exact pt_upd (by omega) (pIn_r hW hx').1 (fun _ => (hr.2.2.2.2 x hx').2)
  · rw [pIf_f h, e, if_pos rfl]; exact ⟨rfl, hr⟩
/-- to the end of the line -/
theorem pt_end {T : cT} {A : pT} (hW : pW A) (hr : rT T A) {o v : Int32} (ho : 1 ≤ o.toInt ∧ o.toInt < 40) : ∃ f' : cA, m_T_putAt (m_T_takeOut T o) (m_T_takeOut T o).2.2.2.2 o v = (T.1, upd T.2.1 o.toNatClampNeg v, T.2.2.1, f', pq ((pRem A.1 o) ++ [o]).length) ∧ seg f' 0 ((pRem A.1 o) ++ [o]).length = (pRem A.1 o) ++ [o] ∧ ∀ j, j < 40 → 0 ≤ (f' j).toInt ∧ (f' j).toInt < 40 := by
  obtain ⟨f1, a1, a2, a3⟩ := pt_take hW hr o
  have h38 := pt_len hW ho
  rw [a1]
  obtain ⟨f2, c1, c2, c3⟩ := pt_put (T := (T.1, T.2.1, T.2.2.1, f1, pq (pRem A.1 o).length)) (l := pRem A.1 o) (o := o) (v := v) (sp := (pRem A.1 o).length) rfl a2 h38 (Nat.le_refl _) (by omega) a3
  have hlen : ((pRem A.1 o) ++ [o]).length = (pRem A.1 o).length + 1 := by simp
  rw [hlen]
  refine ⟨f2, c1, ?_, c3⟩
  rw [c2, List.take_length, List.drop_length]
theorem pt_len2 {A : pT} (hW : pW A) {o : Int32} (ho : 1 ≤ o.toInt ∧ o.toInt < 40) : ((pRem A.1 o) ++ [o]).length ≤ 39 := by
  have := pt_len hW ho
  rw [List.length_append]; simp; omega
theorem pt_throw {T : cT} {A : pT} (hW : pW A) (hr : rT T A) {o t b : Int32} (ho : 1 ≤ o.toInt ∧ o.toInt < 40) : (m_T_throwAway T o).1 = (pStep A 2 o t b).1 ∧ rT (m_T_throwAway T o).2 (pStep A 2 o t b).2 := by
  have e0 : pStep A 2 o t b = pIf (pIn A o ∧ A.2.1 o ≠ -1) (1, pThrow A o) (0, A) := rfl
  rw [e0]
  unfold m_T_throwAway
  by_cases h1 : pIn A o
  · rw [if_neg (fun e => (pt_in0 hr (by omega) ho.2).mp e h1), (hr.2.2.2.2 o h1).1]
    by_cases h2 : A.2.1 o = -1
    · rw [if_pos h2, pIf_f (fun h => h.2 h2)]; exact ⟨rfl, hr⟩
    · rw [if_neg h2, pIf_t ⟨h1, h2⟩]
      have hoA := pIn_l h1 ho.1
      obtain ⟨f', a1, a2, a3⟩ := pt_end hW hr (v := -1) ho
      rw [a1]
      refine ⟨rfl, pt_asm hW hr ho (by rw [ti_m1]; omega) (l := pRem A.1 o ++ [o]) (fun x => ?_) a3 a2 (pt_len2 hW ho) hr.1.2.2.2.1 (pt_may_ne hr A.2.2 hoA (pL_app hoA)) hr.1.2.2.2.2 (fun x hx => (hr.2.2.2.2 x ?_).2) rfl⟩
      · rw [pL_app hoA]
        exact ⟨Or.inl, fun h => h.elim id (fun h => by rw [h]; exact hoA)⟩
      · rcases hx with h | h
        · exact Or.inl h
        · exact Or.inr ((pL_app hoA x).mp h)
  · rw [if_pos ((pt_in0 hr (by omega) ho.2).mpr h1), pIf_f (fun h => h1 h.1)]; exact ⟨rfl, hr⟩
theorem pt_back0 {T : cT} {A : pT} (hW : pW A) (hr : rT T A) {o t : Int32} (ho : 1 ≤ o.toInt ∧ o.toInt < 40) (ht : 0 ≤ t.toInt ∧ t.toInt < 40) : (l_T_bringBack_45 T o t).1 = (pIf (pMay A o t) (1, pBack A o t) (0, A)).1 ∧ rT (l_T_bringBack_45 T o t).2 (pIf (pMay A o t) ((1 : Int32), pBack A o t) (0, A)).2 := by
  unfold l_T_bringBack_45
  rcases pt_may hW hr (o := o) (t := t) (by omega) ht with ⟨h, e⟩ | ⟨h, e⟩
  · rw [pIf_t h, e, if_neg (by decide)]
    have hoA := pIn_l h.1 ho.1
    obtain ⟨f', a1, a2, a3⟩ := pt_end hW hr (v := t) ho
    rw [a1]
    refine ⟨rfl, pt_asm hW hr ho (by omega) (l := pRem A.1 o ++ [o]) (fun x => ?_) a3 a2 (pt_len2 hW ho) hr.1.2.2.2.1 (pt_may_ne hr A.2.2 hoA (pL_app hoA)) (pt_wasr hr ht) (fun x hx => ?_) rfl⟩
    · rw [pL_app hoA]
      exact ⟨Or.inl, fun h => h.elim id (fun h => by rw [h]; exact hoA)⟩
    · have hx' : pIn A x := by
        rcases hx with h | h
        · exact Or.inl h
        · exact Or.inr ((pL_app hoA x).mp h)
      exact pt_upd (by omega) (pIn_r hW hx').1 (fun _ => (hr.2.2.2.2 x hx').2)
  · rw [pIf_f h, e, if_pos rfl]; exact ⟨rfl, hr⟩
theorem pt_back {T : cT} {A : pT} (hW : pW A) (hr : rT T A) {s o t b : Int32} (hs : s ≠ 0 ∧ s ≠ 1 ∧ s ≠ 2) (ho : 1 ≤ o.toInt ∧ o.toInt < 40) : (m_T_bringBack T o).1 = (pStep A s o t b).1 ∧ rT (m_T_bringBack T o).2 (pStep A s o t b).2 := by
  have e0 : pStep A s o t b = pIf (pIn A o ∧ A.2.1 o = -1) (pIf (pMay A o (A.2.2 o)) (1, pBack A o (A.2.2 o)) (pIf (pMay A o 0) (1, pBack A o 0) (0, A))) (0, A) := by
    unfold pStep; rw [if_neg hs.1, if_neg hs.2.1, if_neg hs.2.2]
  rw [e0]
  unfold m_T_bringBack
  by_cases h1 : pIn A o
  · rw [if_neg (fun e => (pt_in0 hr (by omega) ho.2).mp e h1), (hr.2.2.2.2 o h1).1, (hr.2.2.2.2 o h1).2]
    by_cases h2 : A.2.1 o = -1
    · rw [if_pos h2, pIf_t ⟨h1, h2⟩]
      have hw := hW.2.2.2.2 o (pIn_l h1 ho.1)
      have hb := pt_back0 hW hr (t := A.2.2 o) ho hw
      have h0 := pt_back0 hW hr (t := 0) ho (by rw [ti_0]; omega)
      rcases pt_may hW hr (o := o) (t := A.2.2 o) (by omega) hw with ⟨h, e⟩ | ⟨h, e⟩
      · rw [pIf_t h, e, if_neg (by decide)]
        rw [pIf_t h] at hb
        exact hb
      · rw [pIf_f h, e, if_pos rfl]
        exact h0
    · rw [if_neg h2, pIf_f (fun h => h2 h.2)]; exact ⟨rfl, hr⟩
  · rw [if_pos ((pt_in0 hr (by omega) ho.2).mpr h1), pIf_f (fun h => h1 h.1)]; exact ⟨rfl, hr⟩
theorem pt_make {T : cT} {A : pT} (hW : pW A) (hr : rT T A) {o t b : Int32} (ho : 1 ≤ o.toInt ∧ o.toInt < 40) (hn : o ∉ A.1) : rT (m_T_bringIn T o) (pStep A 0 o t b).2 := by
  have e0 : pStep A 0 o t b = (1, pMake A o) := rfl
  rw [e0]
  have hm : ∀ x, x ∈ A.1 ++ [o] ↔ x ∈ A.1 ∨ x = o := fun x => by rw [List.mem_append, List.mem_singleton]
  have hlen : (A.1 ++ [o]).length = A.1.length + 1 := by simp
  have h39 : (A.1 ++ [o]).length ≤ 39 := pg_i (n := 39) (pApp_d hW.1 hn) (fun x hx => by
    rcases (hm x).mp hx with h | h
    · have := hW.2.1 x h; omega
    · rw [h]; omega)
  unfold m_T_bringIn
  rw [hr.2.1]
  obtain ⟨f2, c1, c2, c3⟩ := pt_put (T := (upd T.1 o.toNatClampNeg 1, T.2.1, upd T.2.2.1 o.toNatClampNeg 0, T.2.2.2.1, pq A.1.length)) (l := A.1) (o := o) (v := -1) (sp := A.1.length) rfl hr.2.2.1 (by omega) (Nat.le_refl _) (by omega) hr.1.2.1
  rw [c1]
  rw [List.take_length, List.drop_length] at c2
  refine pt_asm hW hr ho (by rw [ti_m1]; omega) (l := A.1 ++ [o]) hm c3 (by rw [hlen]; exact c2) h39 (fun j hj => ?_) (fun x h0 h1 => ?_) (pt_wasr hr (by rw [ti_0]; omega)) (fun x hx => ?_) hlen.symm
  · show upd T.1 o.toNatClampNeg 1 j = 0 ∨ upd T.1 o.toNatClampNeg 1 j = 1
    by_cases e : j = o.toNatClampNeg
    · rw [e, pk_us]; exact Or.inr rfl
    · rw [pk_un e]; exact hr.1.2.2.2.1 j hj
  · show upd T.1 o.toNatClampNeg 1 x.toNatClampNeg = 1 ↔ _
    rw [hm]
    by_cases e : x = o
    · rw [e, pk_us]; exact ⟨fun _ => Or.inr (Or.inr rfl), fun _ => rfl⟩
    · rw [pk_un (fun e2 => e (pn_inj h0 (by omega) e2)), hr.2.2.2.1 x h0 h1]
      unfold pIn
      constructor
      · rintro (h | h)
        · exact Or.inl h
        · exact Or.inr (Or.inl h)
      · rintro (h | h | h)
        · exact Or.inl h
        · exact Or.inr h
        · exact absurd h e
  · have hx0 : 0 ≤ x.toInt := by
      rcases hx with rfl | hx
      · rw [ti_0]; omega
      · rcases (hm x).mp hx with h | h
        · have := hW.2.1 x h; omega
        · rw [h]; omega
    refine pt_upd (by omega) hx0 (fun hne => (hr.2.2.2.2 x ?_).2)
    rcases hx with h | h
    · exact Or.inl h
    · rcases (hm x).mp h with h | h
      · exact Or.inr h
      · exact absurd h hne
theorem pt_fill {T : cT} : ∀ (m i n : Nat) (g : cA), i + m = 40 → m < n → (∀ j, j < i → g j = if j = 0 then 1 else 0) → ∀ R : cT, l_T_startAnew_2 T n (pq i) g = R → (∀ j, j < 40 → R.1 j = if j = 0 then 1 else 0) ∧ R.2 = (upd T.2.1 0 (-1), upd T.2.2.1 0 (-1), T.2.2.2.1, 0)
  | m, i, 0, g, _, h, _ => by omega
  | 0, i, n + 1, g, h1, h2, hg => fun R hR => by
    rw [l_T_startAnew_2, ← pq_40, if_pos ((pq_le (by omega) (by omega)).mpr (by omega))] at hR
    subst hR
    exact ⟨fun j hj => hg j (by omega), rfl⟩
  | m + 1, i, n + 1, g, h1, h2, hg => fun R hR => by
    rw [l_T_startAnew_2, ← pq_40, if_neg (fun h => by have := (pq_le (by omega) (by omega)).mp h; omega), pq_inc, pq_n (by omega)] at hR
    by_cases e0 : pq i = 0
    · have ei : i = 0 := by
        have := congrArg Int32.toNatClampNeg e0
        rw [pq_n (by omega)] at this
        exact this
      rw [if_pos e0] at hR
      refine pt_fill m (i + 1) n _ (by omega) (by omega) (fun j hj => ?_) R hR
      have ej : j = i := by omega
      rw [ej, pk_us, if_pos ei]
    · have ei : i ≠ 0 := fun h => e0 (by rw [h]; rfl)
      rw [if_neg e0] at hR
      refine pt_fill m (i + 1) n _ (by omega) (by omega) (fun j hj => ?_) R hR
      by_cases e : j = i
      · rw [e, pk_us, if_neg ei]
      · rw [pk_un e]; exact hg j (by omega)
theorem pt_start {T : cT} (hok : okT T) : rT (m_T_startAnew T) pA0 := by
  obtain ⟨R, hR⟩ : ∃ R, m_T_startAnew T = R := ⟨_, rfl⟩
  obtain ⟨hz, hr⟩ := pt_fill 40 0 41 T.1 rfl (by omega) (fun j h => by omega) R hR
  rw [hR]
  obtain ⟨f, r⟩ := R
  have hr2 : r = (upd T.2.1 0 (-1), upd T.2.2.1 0 (-1), T.2.2.2.1, 0) := hr
  have hy : ∀ j, j < 40 → f j = if j = 0 then 1 else 0 := hz
  subst hr2
  have h0 : (0 : Int32).toNatClampNeg = 0 := rfl
  refine ⟨⟨fun j hj => ?_, hok.2.1, ?_, fun j hj => ?_, fun j h1 hj => ?_⟩, rfl, rfl, fun x h1 h2 => ?_, fun x hx => ?_⟩
  · show -1 ≤ (upd T.2.1 0 (-1) j).toInt ∧ (upd T.2.1 0 (-1) j).toInt < 40
    by_cases e : j = 0
    · rw [e, pk_us, ti_m1]; omega
    · rw [pk_un e]; exact hok.1 j hj
  · show 0 ≤ (0 : Int32).toInt ∧ (0 : Int32).toInt ≤ 39
    rw [ti_0]; omega
  · show f j = 0 ∨ f j = 1
    rw [hy j hj]
    by_cases e : j = 0
    · rw [if_pos e]; exact Or.inr rfl
    · rw [if_neg e]; exact Or.inl rfl
  · show 0 ≤ (upd T.2.2.1 0 (-1) j).toInt ∧ (upd T.2.2.1 0 (-1) j).toInt < 40
    rw [pk_un (by omega)]; exact hok.2.2.2.2 j h1 hj
  · show f x.toNatClampNeg = 1 ↔ pIn pA0 x
    rw [hy _ (ti_ix h1 h2)]
    by_cases e : x = 0
    · rw [e, if_pos h0]; exact ⟨fun _ => Or.inl rfl, fun _ => rfl⟩
    · have hx0 : x.toNatClampNeg ≠ 0 := fun e2 => e (pn_inj h1 (by rw [ti_0]; omega) (by rw [e2]; rfl))
      rw [if_neg hx0]
      refine ⟨fun h => absurd h (by decide), fun h => ?_⟩
      rcases h with h | h
      · exact absurd h e
      · exact (List.not_mem_nil h).elim
  · rcases hx with rfl | h
    · exact ⟨pk_us (f := T.2.1) (k := 0) (x := -1), pk_us (f := T.2.2.1) (k := 0) (x := -1)⟩
    · exact (List.not_mem_nil h).elim
