/-! the other steps of the reference's tree -/
theorem pm_end {M : cM} {A : pT} (hW : pW A) (hr : rU M.2.2.1 A) {o : Int32} (hoA : o ∈ A.1) {P : Nat} (hP : P < 41) : ∃ g' f' : cA, m_M_putAt (M.1, M.2.1, (m_M_takeOut M o), M.2.2.2.1, M.2.2.2.2) o (pq P) ((m_M_takeOut M o).2.2.2.1 (pq P).toNatClampNeg) = (M.2.2.1.1, upd M.2.2.1.2.1 o.toNatClampNeg (pq P), M.2.2.1.2.2.1, g', f') ∧ rK g' f' (pRem A.1 o ++ [o]) (pU (fun x => pE (A.2.1 x)) o (pq P)) := by
  have ho := hW.2.1 o hoA
  have h38 := pt_len hW ho
  obtain ⟨g1, f1, a1, a2⟩ := pm_take hW hr hoA
  rw [a1]
  have hg : (pq P).toNatClampNeg = P := pq_n (by omega)
  show ∃ g' f' : cA, m_M_putAt (M.1, M.2.1, (M.2.2.1.1, M.2.2.1.2.1, M.2.2.1.2.2.1, g1, f1), M.2.2.2.1, M.2.2.2.2) o (pq P) (g1 (pq P).toNatClampNeg) = _ ∧ _
  rw [hg, (a2 P hP).1]
  exact pm_put (M := (M.1, M.2.1, (M.2.2.1.1, M.2.2.1.2.1, M.2.2.1.2.2.1, g1, f1), M.2.2.2.1, M.2.2.2.2)) (o := o) (a := pRem A.1 o) (c := []) a2 (by simp) pRem_o h38 hP
theorem pm_remove {M : cM} {A : pT} (hW : pW A) (hr : rU M.2.2.1 A) {o t b : Int32} (ho : 1 ≤ o.toInt ∧ o.toInt < 40) : (m_M_doRemove M o).1 = (pStep A 2 o t b).1 ∧ rU (m_M_doRemove M o).2 (pStep A 2 o t b).2 := by
  have e0 : pStep A 2 o t b = pIf (pIn A o ∧ A.2.1 o ≠ -1) (1, pThrow A o) (0, A) := rfl
  rw [e0]
  unfold m_M_doRemove
  by_cases h1 : pIn A o
  · have hoA := pIn_l h1 ho.1
    have hp40 : (A.2.1 o).toInt < 40 := by
      rcases pA_par hW hoA with h | h
      · rw [h, ti_m1]; omega
      · omega
    rw [if_neg (fun e => (pm_in0 hr (by omega) ho.2).mp e h1), hr.2.2.1 o hoA]
    by_cases h2 : A.2.1 o = -1
    · rw [if_pos ((pE_40 hp40).mpr h2), pIf_f (fun h => h.2 h2)]; exact ⟨rfl, hr⟩
    · rw [if_neg (fun e => h2 ((pE_40 hp40).mp e)), pIf_t ⟨h1, h2⟩]
      obtain ⟨g', f', c1, c2⟩ := pm_end hW hr hoA (P := 40) (by omega)
      rw [pq_40] at c1 c2
      rw [c1]
      have := pm_asm hW hr (v := -1) ho (l := pRem A.1 o ++ [o]) (W' := A.2.2) (w' := M.2.2.1.2.2.1) (pI_or hoA (pL_app hoA)) (by rw [pE_b]; exact c2) hr.1 (pm_there hr (pL_app hoA)) (fun x hx => hr.2.2.2.1 x (pI_in (pL_app hoA) hx))
      rw [pE_b] at this
      exact ⟨rfl, this⟩
  · rw [if_pos ((pm_in0 hr (by omega) ho.2).mpr h1), pIf_f (fun h => h1 h.1)]; exact ⟨rfl, hr⟩
theorem pm_back {M : cM} {A : pT} (hW : pW A) (hr : rU M.2.2.1 A) {o t : Int32} (hoA : o ∈ A.1) (ht : 0 ≤ t.toInt ∧ t.toInt < 40) : ∃ g' f' : cA, m_M_putAt (M.1, M.2.1, (m_M_takeOut M o), M.2.2.2.1, M.2.2.2.2) o t ((m_M_takeOut M o).2.2.2.1 t.toNatClampNeg) = (M.2.2.1.1, upd M.2.2.1.2.1 o.toNatClampNeg t, M.2.2.1.2.2.1, g', f') ∧ rU (M.2.2.1.1, upd M.2.2.1.2.1 o.toNatClampNeg t, upd M.2.2.1.2.2.1 o.toNatClampNeg t, g', f') (pBack A o t) := by
  have ho := hW.2.1 o hoA
  obtain ⟨q1, q2⟩ := pE_q ht
  obtain ⟨g', f', c1, c2⟩ := pm_end hW hr hoA q2
  rw [pq_of ht.1] at c1
  refine ⟨g', f', c1, ?_⟩
  have := pm_asm hW hr (v := t) ho (l := pRem A.1 o ++ [o]) (W' := pU A.2.2 o t) (w' := upd M.2.2.1.2.2.1 o.toNatClampNeg t) (pI_or hoA (pL_app hoA)) (by rw [q1]; exact c2) hr.1 (pm_there hr (pL_app hoA)) (fun x hx => pt_upd (by omega) (pIn_r hW (pI_in (pL_app hoA) hx)).1 (fun _ => hr.2.2.2.1 x (pI_in (pL_app hoA) hx)))
  rw [pE_t ht.1] at this
  exact this
theorem pm_restore {M : cM} {A : pT} {ob : Nat} (hW : pW A) (hr : rU M.2.2.1 A) (hob : M.1.2.1 = pq ob) (h1ob : 1 ≤ ob) (h40 : ob ≤ 40) (hA : ∀ x ∈ A.1, x.toNatClampNeg < ob) {s o t b : Int32} (hs : s ≠ 0 ∧ s ≠ 1 ∧ s ≠ 2) (ho : 1 ≤ o.toInt ∧ o.toInt < 40) : (m_M_doRestore M o).1 = (pStep A s o t b).1 ∧ rU (m_M_doRestore M o).2 (pStep A s o t b).2 := by
  have e0 : pStep A s o t b = pIf (pIn A o ∧ A.2.1 o = -1) (pIf (pMay A o (A.2.2 o)) (1, pBack A o (A.2.2 o)) (pIf (pMay A o 0) (1, pBack A o 0) (0, A))) (0, A) := by
    unfold pStep; rw [if_neg hs.1, if_neg hs.2.1, if_neg hs.2.2]
  rw [e0]
  unfold m_M_doRestore
  by_cases h1 : pIn A o
  · have hoA := pIn_l h1 ho.1
    have hp40 : (A.2.1 o).toInt < 40 := by
      rcases pA_par hW hoA with h | h
      · rw [h, ti_m1]; omega
      · omega
    rw [if_neg (fun e => (pm_in0 hr (by omega) ho.2).mp e h1), hr.2.2.1 o hoA, hr.2.2.2.1 o h1]
    by_cases h2 : A.2.1 o = -1
    · rw [if_pos ((pE_40 hp40).mpr h2), pIf_t ⟨h1, h2⟩]
      have hw := hW.2.2.2.2 o hoA
      rcases pm_may hW hr hob h1ob h40 hA hoA hw with ⟨h, e⟩ | ⟨h, e⟩
      · have hw1 : A.2.2 o ≠ -1 := by
          intro e2; rw [e2, ti_m1] at hw; omega
        rw [pIf_t h, e, if_neg (by decide), if_neg hw1]
        obtain ⟨g', f', c1, c2⟩ := pm_back hW hr hoA hw
        rw [c1]
        exact ⟨rfl, c2⟩
      · rw [pIf_f h, e, if_pos rfl]
        have h00 : 0 ≤ (0 : Int32).toInt ∧ (0 : Int32).toInt < 40 := by rw [ti_0]; omega
        rcases pm_may hW hr hob h1ob h40 hA hoA h00 with ⟨h, e⟩ | ⟨h, e⟩
        · rw [pIf_t h, e, if_neg (by decide), if_neg (by decide)]
          obtain ⟨g', f', c1, c2⟩ := pm_back hW hr hoA h00
          rw [c1]
          exact ⟨rfl, c2⟩
        · rw [pIf_f h, e, if_pos rfl, if_pos rfl]; exact ⟨rfl, hr⟩
    · rw [if_neg (fun e => h2 ((pE_40 hp40).mp e)), pIf_f (fun h => h2 h.2)]; exact ⟨rfl, hr⟩
  · rw [if_pos ((pm_in0 hr (by omega) ho.2).mpr h1), pIf_f (fun h => h1 h.1)]; exact ⟨rfl, hr⟩
theorem pm_make {M : cM} {A : pT} (hW : pW A) (hr : rU M.2.2.1 A) {o : Int32} (ho : 1 ≤ o.toInt ∧ o.toInt < 40) (hn : o ∉ A.1) : rU (m_M_putAt (M.1, M.2.1, (upd M.2.2.1.1 o.toNatClampNeg 1, M.2.2.1.2.1, upd M.2.2.1.2.2.1 o.toNatClampNeg 0, M.2.2.1.2.2.2.1, M.2.2.1.2.2.2.2), M.2.2.2.1, M.2.2.2.2) o 40 (M.2.2.1.2.2.2.1 (40 : Int32).toNatClampNeg)) (pMake A o) := by
  have hm : ∀ x, x ∈ A.1 ++ [o] ↔ x ∈ A.1 ∨ x = o := fun x => by rw [List.mem_append, List.mem_singleton]
  have hlen : (A.1 ++ [o]).length = A.1.length + 1 := by simp
  have h39 : (A.1 ++ [o]).length ≤ 39 := pg_i (n := 39) (pApp_d hW.1 hn) (fun x hx => by
    rcases (hm x).mp hx with h | h
    · have := hW.2.1 x h; omega
    · rw [h]; omega)
  have e40 : M.2.2.1.2.2.2.1 (40 : Int32).toNatClampNeg = pq (kL A.1 (fun x => pE (A.2.1 x)) 40).length := (hr.2.2.2.2 40 (by omega)).1
  rw [e40, ← pq_40]
  obtain ⟨g', f', c1, c2⟩ := pm_put (M := (M.1, M.2.1, (upd M.2.2.1.1 o.toNatClampNeg 1, M.2.2.1.2.1, upd M.2.2.1.2.2.1 o.toNatClampNeg 0, M.2.2.1.2.2.2.1, M.2.2.1.2.2.2.2), M.2.2.2.1, M.2.2.2.2)) (o := o) (a := A.1) (c := []) (P := 40) hr.2.2.2.2 (by simp) hn (by omega) (by omega)
  rw [c1, show (pq 40) = pE (-1) from rfl]
  refine pm_asm hW hr (v := -1) ho (l := A.1 ++ [o]) (W' := pU A.2.2 o 0) hm (by rw [pE_b]; exact c2) (fun j hj => ?_) (fun x h0 h1 => ?_) (fun x hx => ?_)
  · show upd M.2.2.1.1 o.toNatClampNeg 1 j = 0 ∨ upd M.2.2.1.1 o.toNatClampNeg 1 j = 1
    by_cases e : j = o.toNatClampNeg
    · rw [e, pk_us]; exact Or.inr rfl
    · rw [pk_un e]; exact hr.1 j hj
  · show upd M.2.2.1.1 o.toNatClampNeg 1 x.toNatClampNeg = 1 ↔ _
    rw [hm]
    by_cases e : x = o
    · rw [e, pk_us]; exact ⟨fun _ => Or.inr (Or.inr rfl), fun _ => rfl⟩
    · rw [pk_un (fun e2 => e (pn_inj h0 (by omega) e2)), hr.2.1 x h0 h1]
      unfold pIn
      constructor
      · rintro (h | h)
        · exact Or.inl h
        · exact Or.inr (Or.inl h)
      · rintro (h | h | h)
        · exact Or.inl h
        · exact Or.inr h
        · exact absurd h e
  · have hx0 : 0 ≤ x.toInt := by
      rcases hx with rfl | hx
      · rw [ti_0]; omega
      · rcases (hm x).mp hx with h | h
        · have := hW.2.1 x h; omega
        · rw [h]; omega
    refine pt_upd (by omega) hx0 (fun hne => hr.2.2.2.1 x ?_)
    rcases hx with h | h
    · exact Or.inl h
    · rcases (hm x).mp h with h | h
      · exact Or.inr h
      · exact absurd h hne
theorem pm_row {M : cM} {A : pT} {ob : Nat} (hW : pW A) (hr : rU M.2.2.1 A) (hob : M.1.2.1 = pq ob) (h1ob : 1 ≤ ob) (h40 : ob ≤ 40) (hA : ∀ x ∈ A.1, x.toNatClampNeg < ob) {r s o t b : Int32} (es : M.1.2.2.1 r.toNatClampNeg = s) (eo : M.1.2.2.2.2.2.1 r.toNatClampNeg = o) (et : M.1.2.2.2.2.2.2.1 r.toNatClampNeg = t) (eb : M.1.2.2.2.2.2.2.2 r.toNatClampNeg = b) (ho : 1 ≤ o.toInt ∧ o.toInt < 40) (hn : s = 0 → o ∉ A.1) (ht : s = 1 → 0 ≤ t.toInt ∧ t.toInt < 40) : (m_M_doRow M r).1 = (pStep A s o t b).1 ∧ rU (m_M_doRow M r).2 (pStep A s o t b).2 := by
  unfold m_M_doRow
  rw [es]
  by_cases h0 : s = 0
  · rw [if_pos h0, h0, eo]
    exact ⟨rfl, pm_make hW hr ho (hn h0)⟩
  · rw [if_neg h0]
    by_cases h1 : s = 1
    · rw [if_pos h1]
      have := pm_move hW hr hob h1ob h40 hA eo et eb ho (ht h1)
      rw [h1]; exact this
    · rw [if_neg h1]
      by_cases h2 : s = 2
      · rw [if_pos h2, eo]
        have := pm_remove hW hr (t := t) (b := b) ho
        rw [h2]; exact this
      · rw [if_neg h2, eo]
        exact pm_restore hW hr hob h1ob h40 hA ⟨h0, h1, h2⟩ ho
theorem pm_ok {U : cU} {A : pT} (hW : pW A) (hr : rU U A) : okU U := by
  obtain ⟨d, hd⟩ := hW.2.2.2.1
  have h39 := pW_len hW
  have key : ∀ j, 1 ≤ j → j < 40 → U.1 j = 1 → pq j ∈ A.1 := fun j h1 h2 h3 => by
    have e : (pq j).toNatClampNeg = j := pq_n (by omega)
    have i : (pq j).toInt = j := pq_i (by omega)
    have := (hr.2.1 (pq j) (by omega) (by omega)).mp (by rw [e]; exact h3)
    exact pIn_l this (by omega)
  refine ⟨⟨fun j => if _ : j < 40 then min (d (pq j)) 8 else 0, fun j hj => ?_, fun j h1 h2 h3 => ?_⟩, hr.1, fun j hj => ?_, fun j h1 h2 h3 => ?_⟩
  · show (if _ : j < 40 then min (d (pq j)) 8 else 0) < 40
    rw [dif_pos hj]; omega
  · have hm := key j h1 h2 h3
    have e : (pq j).toNatClampNeg = j := pq_n (by omega)
    have hu := hr.2.2.1 _ hm
    rw [e] at hu
    rcases (hd.2 _ hm).2 with h | h
    · exact Or.inl (by rw [hu, h.1]; decide)
    · have h4 := pIn_r hW h.1
      have h5 : U.2.1 j = A.2.1 (pq j) := by rw [hu, pE_t h4.1]
      have h6 := ti_ix (n := 40) h4.1 h4.2
      refine Or.inr ⟨by rw [h5]; exact h4.1, by rw [h5]; exact h4.2, ?_, ?_⟩
      · rw [h5]; exact (hr.2.1 _ h4.1 h4.2).mpr h.1
      · show (if _ : (U.2.1 j).toNatClampNeg < 40 then min (d (pq (U.2.1 j).toNatClampNeg)) 8 else 0) < (if _ : j < 40 then min (d (pq j)) 8 else 0)
        rw [h5, dif_pos h2, dif_pos h6, pq_of h4.1]
        have := (hd.2 _ hm).1
        omega
  · have h := (hr.2.2.2.2 j hj).1
    have hle := kL_le A.1 (fun x => pE (A.2.1 x)) j
    show 0 ≤ (U.2.2.2.1 j).toInt ∧ (U.2.2.2.1 j).toInt ≤ 39
    rw [h, pq_i (by omega)]; omega
  · have hm := key j h1 h2 h3
    have e : (pq j).toNatClampNeg = j := pq_n (by omega)
    have hu := hr.2.2.2.1 _ (Or.inr hm)
    rw [e] at hu
    show 0 ≤ (U.2.2.1 j).toInt ∧ (U.2.2.1 j).toInt < 40
    rw [hu]; exact hW.2.2.2.2 _ hm
