/-! the steps of the reference's tree -/
theorem p40 (P i : Nat) : 40 * pq P + pq i = pq (40 * P + i) := by
  rw [← pq_40, pq_mul, pq_add]
theorem p_m11 : (-1 : Int32) + 1 = pq 0 := by decide
/-- placeOf -/
theorem pm_po {M : cM} {b : Int32} {P s : Nat} (hP : P < 41) (hs : M.2.2.1.2.2.2.1 P = pq s) (h39 : s ≤ 39) : ∀ (m i n : Nat), i + m = s → m < n →
    (∃ l1 l2, seg M.2.2.1.2.2.2.2 (40 * P + i) m = l1 ++ b :: l2 ∧ b ∉ l1 ∧ l_M_placeOf_2 M b (pq P) n (pq i) = pq (i + l1.length)) ∨ (b ∉ seg M.2.2.1.2.2.2.2 (40 * P + i) m ∧ l_M_placeOf_2 M b (pq P) n (pq i) = -1)
  | m, i, 0, _, h => by omega
  | 0, i, n + 1, h1, h2 => by
    refine Or.inr ⟨List.not_mem_nil, ?_⟩
    rw [l_M_placeOf_2, pq_n (by omega), hs, if_pos ((pq_le (by omega) (by omega)).mpr (by omega))]
  | m + 1, i, n + 1, h1, h2 => by
    have IH := pm_po (b := b) hP hs h39 m (i + 1) n (by omega) (by omega)
    rw [l_M_placeOf_2, pq_n (n := P) (by omega), hs, if_neg (fun h => by have := (pq_le (by omega) (by omega)).mp h; omega), p40, pq_n (by omega), pq_inc, seg_s]
    by_cases e : M.2.2.1.2.2.2.2 (40 * P + i) = b
    · rw [if_pos e]
      exact Or.inl ⟨[], seg M.2.2.1.2.2.2.2 (40 * P + i + 1) m, by rw [e]; rfl, List.not_mem_nil, rfl⟩
    · rw [if_neg e]
      rcases IH with ⟨l1, l2, h3, h4, h5⟩ | ⟨h3, h4⟩
      · refine Or.inl ⟨M.2.2.1.2.2.2.2 (40 * P + i) :: l1, l2, by rw [Nat.add_assoc, h3]; rfl, fun hm => ?_, by rw [h5, List.length_cons]; congr 1; omega⟩
        rcases List.mem_cons.mp hm with h | h
        · exact e h.symm
        · exact h4 h
      · refine Or.inr ⟨fun hm => h3 ?_, h4⟩
        rcases List.mem_cons.mp hm with h | h
        · exact absurd h.symm e
        · exact h
/-- takeOut -/
theorem pm_to {M : cM} {o : Int32} {P s : Nat} (hp : M.2.2.1.2.1 o.toNatClampNeg = pq P) (hP : P < 41) (hs : M.2.2.1.2.2.2.1 P = pq s) (h39 : s ≤ 39) : ∀ (m k i n : Nat) (f : cA), i + m = s → k ≤ i → m < n →
    ∃ (f' : cA) (k' : Nat), l_M_takeOut_12 M o n (pq k) (pq i) f = (M.2.2.1.1, M.2.2.1.2.1, M.2.2.1.2.2.1, upd M.2.2.1.2.2.2.1 P (pq k'), f') ∧ k' = (seg f (40 * P) k ++ pRem (seg f (40 * P + i) m) o).length ∧ seg f' (40 * P) k' = seg f (40 * P) k ++ pRem (seg f (40 * P + i) m) o ∧ ∀ j, j < 40 * P ∨ 40 * P + s ≤ j → f' j = f j
  | m, k, i, 0, f, _, _, h => by omega
  | 0, k, i, n + 1, f, h1, h2, h3 => by
    refine ⟨f, k, ?_, by simp [seg_0, pRem, seg_len], by simp [seg_0, pRem], fun j _ => rfl⟩
    rw [l_M_takeOut_12, hp, pq_n (n := P) (by omega), hs, if_pos ((pq_le (by omega) (by omega)).mpr (by omega))]
  | m + 1, k, i, n + 1, f, h1, h2, h3 => by
    rw [l_M_takeOut_12, hp, pq_n (n := P) (by omega), hs, if_neg (fun h => by have := (pq_le (by omega) (by omega)).mp h; omega), p40, p40, pq_n (by omega), pq_n (by omega), pq_inc, pq_inc, seg_s]
    split
    · rename_i he
      obtain ⟨f', k', a, b, c, g⟩ := pm_to hp hP hs h39 m k (i + 1) n f (by omega) (by omega) (by omega)
      have e : pRem (f (40 * P + i) :: seg f (40 * P + i + 1) m) o = pRem (seg f (40 * P + (i + 1)) m) o := by
        unfold pRem; rw [List.filter_cons_of_neg]; rfl; simp [he]
      rw [e]
      exact ⟨f', k', a, b, c, g⟩
    · rename_i he
      obtain ⟨f', k', a, b, c, g⟩ := pm_to hp hP hs h39 m (k + 1) (i + 1) n (upd f (40 * P + k) (f (40 * P + i))) (by omega) (by omega) (by omega)
      have e : pRem (f (40 * P + i) :: seg f (40 * P + i + 1) m) o = f (40 * P + i) :: pRem (seg f (40 * P + (i + 1)) m) o := by
        unfold pRem; rw [List.filter_cons_of_pos]; rfl; simp [he]
      rw [seg_updE, seg_upd (Or.inl (by omega)), List.append_assoc] at b c
      rw [e]
      exact ⟨f', k', a, b, c, fun j hj => by rw [g j hj, pk_un (by omega)]⟩
/-- putAt -/
theorem pm_pu {M : cM} {o : Int32} {P sp : Nat} (hP : P < 41) (hsp : sp ≤ 39) : ∀ (m n : Nat) (f : cA), sp + m ≤ 39 → m < n →
    ∃ f' : cA, l_M_putAt_8 M o (pq P) (pq sp) n (pq (sp + m)) f = (M.2.2.1.1, upd M.2.2.1.2.1 o.toNatClampNeg (pq P), M.2.2.1.2.2.1, upd M.2.2.1.2.2.2.1 P (M.2.2.1.2.2.2.1 P + 1), f') ∧ (∀ j, j < 40 * P + sp → f' j = f j) ∧ f' (40 * P + sp) = o ∧ (∀ j, 40 * P + sp ≤ j → j < 40 * P + sp + m → f' (j + 1) = f j) ∧ ∀ j, 40 * P + sp + m < j → f' j = f j
  | m, 0, f, _, h => by omega
  | 0, n + 1, f, h1, h2 => by
    refine ⟨upd f (40 * P + sp) o, ?_, fun j h => pk_un (by omega), pk_us, fun j h3 h4 => by omega, fun j h => pk_un (by omega)⟩
    rw [l_M_putAt_8, if_pos ((pq_le (by omega) (by omega)).mpr (by omega)), p40, pq_n (by omega), pq_n (by omega)]
  | m + 1, n + 1, f, h1, h2 => by
    have e : sp + (m + 1) = (sp + m) + 1 := by omega
    rw [l_M_putAt_8, if_neg (fun h => by have := (pq_le (by omega) (by omega)).mp h; omega), e, pq_dec, p40, ← Nat.add_assoc, pq_dec', pq_n (by omega), pq_n (by omega)]
    obtain ⟨f', a, b, c, d, g⟩ := pm_pu (M := M) (o := o) hP hsp m n (upd f (40 * P + (sp + m) + 1) (f (40 * P + (sp + m)))) (by omega) (by omega)
    refine ⟨f', a, fun j h => by rw [b j h, pk_un (by omega)], c, fun j h3 h4 => ?_, fun j h => by rw [g j (by omega), pk_un (by omega)]⟩
    by_cases hj : j = 40 * P + (sp + m)
    · subst hj; rw [g _ (by omega), pk_us]
    · rw [d j h3 (by omega), pk_un (by omega)]
theorem kL_rem {l : List Int32} {E : Int32 → Int32} {p : Nat} {o : Int32} : kL (pRem l o) E p = pRem (kL l E p) o := by
  unfold kL pRem
  rw [List.filter_filter, List.filter_filter]
  congr 1; funext x; exact Bool.and_comm _ _
theorem pRem_not {l : List Int32} {o : Int32} (h : o ∉ l) : pRem l o = l := by
  unfold pRem
  rw [List.filter_eq_self]
  intro x hx
  have : x ≠ o := fun e => h (by rw [← e]; exact hx)
  simp [this]
theorem pm_take {M : cM} {A : pT} (hW : pW A) (hr : rU M.2.2.1 A) {o : Int32} (ho : o ∈ A.1) : ∃ g' f' : cA, m_M_takeOut M o = (M.2.2.1.1, M.2.2.1.2.1, M.2.2.1.2.2.1, g', f') ∧ rK g' f' (pRem A.1 o) (fun x => pE (A.2.1 x)) := by
  obtain ⟨P, hP, eP⟩ := pE_r hW ho
  have hp : M.2.2.1.2.1 o.toNatClampNeg = pq P := by rw [hr.2.2.1 o ho, eP]
  have hk := hr.2.2.2.2 P hP
  have h39 := pW_len hW
  have hle := kL_le A.1 (fun x => pE (A.2.1 x)) P
  obtain ⟨f', k', a, b, c, g⟩ := pm_to (o := o) hp hP hk.1 (by omega) (kL A.1 (fun x => pE (A.2.1 x)) P).length 0 0 41 M.2.2.1.2.2.2.2 (by omega) (by omega) (by omega)
  rw [Nat.add_zero, hk.2, seg_0, List.nil_append, ← kL_rem] at b c
  refine ⟨_, f', a, fun p hp' => ?_⟩
  by_cases e : p = P
  · subst e
    rw [pk_us]
    subst b
    exact ⟨rfl, c⟩
  · rw [pk_un e]
    have e2 : kL (pRem A.1 o) (fun x => pE (A.2.1 x)) p = kL A.1 (fun x => pE (A.2.1 x)) p := by
      rw [kL_rem]; apply pRem_not
      intro hm
      have h1 := (kL_m.mp hm).2
      rw [show pE (A.2.1 o) = pq P from eP] at h1
      exact e ((pq_inj (by omega) (by omega)).mp h1).symm
    rw [e2]
    have hle' := kL_le A.1 (fun x => pE (A.2.1 x)) p
    have hq := hr.2.2.2.2 p hp'
    refine ⟨hq.1, ?_⟩
    rw [← hq.2, seg_len]
    exact seg_congr fun j h1 h2 => g j (by omega)
/-- the lists of children after a child has come in -/
theorem pm_put {M : cM} {l a c : List Int32} {E : Int32 → Int32} {o : Int32} {P : Nat} (hK : rK M.2.2.1.2.2.2.1 M.2.2.1.2.2.2.2 l E) (hl : l = a ++ c) (ho : o ∉ l) (h38 : l.length ≤ 38) (hP : P < 41) : ∃ g' f' : cA, m_M_putAt M o (pq P) (pq (kL a E P).length) = (M.2.2.1.1, upd M.2.2.1.2.1 o.toNatClampNeg (pq P), M.2.2.1.2.2.1, g', f') ∧ rK g' f' (a ++ o :: c) (pU E o (pq P)) := by
  have same : ∀ (b : List Int32) (p : Nat), o ∉ b → kL b (pU E o (pq P)) p = kL b E p := by
    intro b p hb
    unfold kL
    apply List.filter_congr
    intro x hx
    rw [pU_n (fun e => hb (by rw [← e]; exact hx))]
  have hoa : o ∉ a := fun h => ho (by rw [hl]; exact List.mem_append_left _ h)
  have hoc : o ∉ c := fun h => ho (by rw [hl]; exact List.mem_append_right _ h)
  have kapp : ∀ (x y : List Int32) (E : Int32 → Int32) (p : Nat), kL (x ++ y) E p = kL x E p ++ kL y E p := fun x y E p => List.filter_append ..
  have hk := hK P hP
  have hlen : (kL l E P).length = (kL a E P).length + (kL c E P).length := by rw [hl, kapp, List.length_append]
  have hle := kL_le l E P
  obtain ⟨f', e1, e2, e3, e4, e5⟩ := pm_pu (M := M) (o := o) (P := P) (sp := (kL a E P).length) hP (by omega) (kL c E P).length 41 M.2.2.1.2.2.2.2 (by omega) (by omega)
  refine ⟨upd M.2.2.1.2.2.2.1 P (M.2.2.1.2.2.2.1 P + 1), f', ?_, fun p hp => ?_⟩
  · show l_M_putAt_8 M o (pq P) (pq (kL a E P).length) 41 (M.2.2.1.2.2.2.1 (pq P).toNatClampNeg) M.2.2.1.2.2.2.2 = _
    rw [← hlen, ← hk.1] at e1
    rw [pq_n (n := P) (by omega)]
    exact e1
  · by_cases e : p = P
    · subst e
      rw [pk_us, hk.1, pq_inc]
      have e6 : kL (a ++ o :: c) (pU E o (pq p)) p = kL a E p ++ o :: kL c E p := by
        rw [kapp, same a p hoa, ← same c p hoc]
        congr 1
        unfold kL
        rw [List.filter_cons_of_pos]
        rw [pU_s]; simp
      rw [e6]
      have e7 : (kL a E p ++ o :: kL c E p).length = (kL a E p).length + (kL c E p).length + 1 := by simp; omega
      rw [e7, hlen]
      refine ⟨rfl, ?_⟩
      have e8 : seg M.2.2.1.2.2.2.2 (40 * p) ((kL a E p).length + (kL c E p).length) = kL a E p ++ kL c E p := by
        rw [← hlen, hk.2, hl, kapp]
      rw [seg_app] at e8
      have e9 := List.append_inj e8 (by rw [seg_len])
      rw [Nat.add_assoc, seg_app, seg_s, e3, seg_shift e4, e9.2, seg_congr (fun j h1 h2 => e2 j (by omega)), e9.1]
    · rw [pk_un e]
      have e6 : kL (a ++ o :: c) (pU E o (pq P)) p = kL l E p := by
        rw [kapp, same a p hoa, hl, kapp, ← same c p hoc]
        congr 1
        unfold kL
        rw [List.filter_cons_of_neg]
        rw [pU_s]
        simp only [beq_iff_eq]
        intro h
        exact e ((pq_inj (by omega) (by omega)).mp h).symm
      rw [e6]
      have hq := hK p hp
      have hle' := kL_le l E p
      refine ⟨hq.1, ?_⟩
      rw [← hq.2, seg_len]
      refine seg_congr fun j h1 h2 => ?_
      by_cases hh : j < 40 * P + (kL a E P).length
      · exact e2 j hh
      · exact e5 j (by omega)
theorem p_cut {b : Int32} : ∀ {l1 m1 l2 m2 : List Int32}, b ∉ l1 → b ∉ m1 → l1 ++ b :: l2 = m1 ++ b :: m2 → l1 = m1
  | [], [], _, _, _, _, _ => rfl
  | [], y :: ys, l2, m2, _, h, e => by
    have e' : b :: l2 = y :: (ys ++ b :: m2) := e
    have := (List.cons.inj e').1
    exact absurd (by rw [this]; exact List.mem_cons_self) h
  | x :: xs, [], l2, m2, h, _, e => by
    have e' : x :: (xs ++ b :: l2) = b :: m2 := e
    have := (List.cons.inj e').1
    exact absurd (by rw [this]; exact List.mem_cons_self) h
  | x :: xs, y :: ys, l2, m2, h1, h2, e => by
    have e' : x :: (xs ++ b :: l2) = y :: (ys ++ b :: m2) := e
    have h := List.cons.inj e'
    have h1' : b ∉ xs := fun h => h1 (List.mem_cons_of_mem _ h)
    have h2' : b ∉ ys := fun h => h2 (List.mem_cons_of_mem _ h)
    rw [h.1, p_cut h1' h2' h.2]
/-- the new state of the reference's tree -/
theorem pm_asm {U : cU} {A : pT} (hW : pW A) (hr : rU U A) {o v : Int32} (ho : 1 ≤ o.toInt ∧ o.toInt < 40) {l : List Int32} {g' f' t' w' : cA} {W' : Int32 → Int32} (hl : ∀ x, x ∈ l ↔ x ∈ A.1 ∨ x = o) (hK : rK g' f' l (pU (fun x => pE (A.2.1 x)) o (pE v)))
    (ht1 : ∀ j, j < 40 → t' j = 0 ∨ t' j = 1) (ht : ∀ x : Int32, 0 ≤ x.toInt → x.toInt < 40 → (t' x.toNatClampNeg = 1 ↔ x = 0 ∨ x ∈ l)) (hw : ∀ x, x = 0 ∨ x ∈ l → w' x.toNatClampNeg = W' x) :
    rU (t', upd U.2.1 o.toNatClampNeg (pE v), w', g', f') (l, pU A.2.1 o v, W') := by
  have hE : (fun x => pE (pU A.2.1 o v x)) = pU (fun x => pE (A.2.1 x)) o (pE v) := by
    funext x
    by_cases e : x = o
    · rw [e, pU_s, pU_s]
    · rw [pU_n e, pU_n e]
  refine ⟨ht1, ht, fun x hx => ?_, hw, ?_⟩
  · show upd U.2.1 o.toNatClampNeg (pE v) x.toNatClampNeg = pE (pU A.2.1 o v x)
    by_cases e : x = o
    · rw [e, pk_us, pU_s]
    · have hx' : x ∈ A.1 := ((hl x).mp hx).resolve_right e
      have := hW.2.1 x hx'
      rw [pk_un (fun e2 => e (pn_inj (by omega) (by omega) e2)), pU_n e]
      exact hr.2.2.1 x hx'
  · show rK g' f' l (fun x => pE (pU A.2.1 o v x))
    rw [hE]; exact hK
theorem pm_there {U : cU} {A : pT} (hr : rU U A) {l : List Int32} (hl : ∀ x, x ∈ l ↔ x ∈ A.1) : ∀ x : Int32, 0 ≤ x.toInt → x.toInt < 40 → (U.1 x.toNatClampNeg = 1 ↔ x = 0 ∨ x ∈ l) := fun x h0 h1 => by
  rw [hr.2.1 x h0 h1, hl]; exact Iff.rfl
theorem pI_or {A : pT} {o : Int32} (ho : o ∈ A.1) {l : List Int32} (hl : ∀ x, x ∈ l ↔ x ∈ A.1) : ∀ x, x ∈ l ↔ x ∈ A.1 ∨ x = o := fun x => by
  rw [hl]; exact ⟨Or.inl, fun h => h.elim id (fun h => by rw [h]; exact ho)⟩
theorem pI_in {A : pT} {l : List Int32} (hl : ∀ x, x ∈ l ↔ x ∈ A.1) {x : Int32} (hx : x = 0 ∨ x ∈ l) : pIn A x := by
  rcases hx with h | h
  · exact Or.inl h
  · exact Or.inr ((hl x).mp h)
theorem pE_q {t : Int32} (ht : 0 ≤ t.toInt ∧ t.toInt < 40) : pE t = pq t.toNatClampNeg ∧ t.toNatClampNeg < 41 := by
  refine ⟨by rw [pE_t ht.1, pq_of ht.1], ?_⟩
  have := ti_ix (n := 40) ht.1 ht.2; omega
theorem pm_move {M : cM} {A : pT} {ob : Nat} (hW : pW A) (hr : rU M.2.2.1 A) (hob : M.1.2.1 = pq ob) (h1ob : 1 ≤ ob) (h40 : ob ≤ 40) (hA : ∀ x ∈ A.1, x.toNatClampNeg < ob) {r o t b : Int32} (eo : M.1.2.2.2.2.2.1 r.toNatClampNeg = o) (et : M.1.2.2.2.2.2.2.1 r.toNatClampNeg = t) (eb : M.1.2.2.2.2.2.2.2 r.toNatClampNeg = b) (ho : 1 ≤ o.toInt ∧ o.toInt < 40) (ht : 0 ≤ t.toInt ∧ t.toInt < 40) : (m_M_doMove M r).1 = (pStep A 1 o t b).1 ∧ rU (m_M_doMove M r).2 (pStep A 1 o t b).2 := by
  have e0 : pStep A 1 o t b = pIf (pMay A o t) (1, pMove A o t b) (0, A) := rfl
  rw [e0]
  unfold m_M_doMove
  rw [eo, et, eb]
  by_cases h1 : pIn A o
  · rw [if_neg (fun e => (pm_in0 hr (by omega) ho.2).mp e h1)]
    have hoA := pIn_l h1 ho.1
    rcases pm_may hW hr hob h1ob h40 hA hoA ht with ⟨h, e⟩ | ⟨h, e⟩
    · rw [pIf_t h, e, if_neg (by decide)]
      obtain ⟨g1, f1, a1, a2⟩ := pm_take hW hr hoA
      have h38 := pt_len hW ho
      have h39 := pW_len hW
      obtain ⟨q1, q2⟩ := pE_q ht
      rw [a1]
      have fin : ∀ (sp : Int32) (a c : List Int32), pRem A.1 o = a ++ c → sp = pq (kL a (fun x => pE (A.2.1 x)) t.toNatClampNeg).length → pIns (pRem A.1 o) A.2.1 b t o = a ++ o :: c → ∃ g' f' : cA, m_M_putAt (M.1, M.2.1, (M.2.2.1.1, M.2.2.1.2.1, M.2.2.1.2.2.1, g1, f1), M.2.2.2.1, M.2.2.2.2) o t sp = (M.2.2.1.1, upd M.2.2.1.2.1 o.toNatClampNeg t, M.2.2.1.2.2.1, g', f') ∧ rU (M.2.2.1.1, upd M.2.2.1.2.1 o.toNatClampNeg t, upd M.2.2.1.2.2.1 o.toNatClampNeg t, g', f') (pMove A o t b) := by
        intro sp a c h1 h2 h3
        have hput := pm_put (M := (M.1, M.2.1, (M.2.2.1.1, M.2.2.1.2.1, M.2.2.1.2.2.1, g1, f1), M.2.2.2.1, M.2.2.2.2)) (o := o) a2 h1 pRem_o h38 q2
        obtain ⟨g', f', c1, c2⟩ := hput
        rw [← q1, pE_t ht.1, ← h2] at c1
        refine ⟨g', f', c1, ?_⟩
        have hL : ∀ x, x ∈ pIns (pRem A.1 o) A.2.1 b t o ↔ x ∈ A.1 := pL_ins hoA
        have := pm_asm hW hr (v := t) ho (l := pIns (pRem A.1 o) A.2.1 b t o) (W' := pU A.2.2 o t) (w' := upd M.2.2.1.2.2.1 o.toNatClampNeg t) (pI_or hoA hL) (by rw [h3, q1]; exact c2) hr.1 (pm_there hr hL) (fun x hx => pt_upd (by omega) (pIn_r hW (pI_in hL hx)).1 (fun _ => hr.2.2.2.1 x (pI_in hL hx)))
        rw [pE_t ht.1] at this
        exact this
      by_cases eb2 : b = o
      · rw [if_pos eb2]
        have hb : ¬ (b ∈ pRem A.1 o ∧ A.2.1 b = t) := fun h => by rw [eb2] at h; exact pRem_o h.1
        obtain ⟨g', f', c1, c2⟩ := fin ((-1) + 1) [] (pRem A.1 o) rfl p_m11 (by unfold pIns; rw [if_neg hb]; rfl)
        rw [c1]
        exact ⟨rfl, c2⟩
      · rw [if_neg eb2]
        have hle := kL_le (pRem A.1 o) (fun x => pE (A.2.1 x)) t.toNatClampNeg
        have hpo := pm_po (M := (M.1, M.2.1, (M.2.2.1.1, M.2.2.1.2.1, M.2.2.1.2.2.1, g1, f1), M.2.2.2.1, M.2.2.2.2)) (b := b) q2 (a2 _ q2).1 (by omega) (kL (pRem A.1 o) (fun x => pE (A.2.1 x)) t.toNatClampNeg).length 0 41 (by omega) (by omega)
        have hmem : b ∈ kL (pRem A.1 o) (fun x => pE (A.2.1 x)) t.toNatClampNeg ↔ (b ∈ pRem A.1 o ∧ A.2.1 b = t) := by
          rw [kL_m]
          constructor
          · rintro ⟨x1, x2⟩
            refine ⟨x1, ?_⟩
            have x2' : pE (A.2.1 b) = t := by rw [← pE_t ht.1, q1]; exact x2
            rcases pA_par hW (pRem_m.mp x1).1 with y | y
            · rw [y, pE_b] at x2'
              rw [← x2', ti_40] at ht; omega
            · rw [pE_t y.1] at x2'; exact x2'
          · rintro ⟨x1, x2⟩
            refine ⟨x1, ?_⟩
            show pE (A.2.1 b) = _
            rw [x2]; exact q1
        have hpq : m_M_placeOf (M.1, M.2.1, (M.2.2.1.1, M.2.2.1.2.1, M.2.2.1.2.2.1, g1, f1), M.2.2.2.1, M.2.2.2.2) b t = l_M_placeOf_2 (M.1, M.2.1, (M.2.2.1.1, M.2.2.1.2.1, M.2.2.1.2.2.1, g1, f1), M.2.2.2.1, M.2.2.2.2) b (pq t.toNatClampNeg) 41 (pq 0) := by
          rw [pq_of ht.1]; rfl
        have hseg := (a2 _ q2).2
        rcases hpo with ⟨l1, l2, h3, h4, h5⟩ | ⟨h3, h4⟩
        · have h3' : kL (pRem A.1 o) (fun x => pE (A.2.1 x)) t.toNatClampNeg = l1 ++ b :: l2 := by
            rw [← hseg]; exact h3
          have hb : b ∈ pRem A.1 o ∧ A.2.1 b = t := hmem.mp (by rw [h3']; simp)
          obtain ⟨a, c, hac, hna⟩ : ∃ a c, pRem A.1 o = a ++ b :: c ∧ b ∉ a := by
            have := List.append_of_mem hb.1
            obtain ⟨a, c, hac⟩ := this
            refine ⟨a, c, hac, fun hm => ?_⟩
            have hnd := pRem_d (o := o) hW.1
            rw [hac, List.nodup_append] at hnd
            exact hnd.2.2 b hm b List.mem_cons_self rfl
          have hka : kL (pRem A.1 o) (fun x => pE (A.2.1 x)) t.toNatClampNeg = kL a (fun x => pE (A.2.1 x)) t.toNatClampNeg ++ b :: kL c (fun x => pE (A.2.1 x)) t.toNatClampNeg := by
            rw [hac]
            unfold kL
            rw [List.filter_append, List.filter_cons_of_pos]
            show (pE (A.2.1 b) == _) = true
            rw [hb.2, q1]; simp
          have hl1 : l1 = kL a (fun x => pE (A.2.1 x)) t.toNatClampNeg := by
            refine p_cut h4 (fun hm => hna (kL_m.mp hm).1) (l2 := l2) (m2 := kL c (fun x => pE (A.2.1 x)) t.toNatClampNeg) ?_
            rw [← h3', hka]
          obtain ⟨g', f', c1, c2⟩ := fin (m_M_placeOf (M.1, M.2.1, (M.2.2.1.1, M.2.2.1.2.1, M.2.2.1.2.2.1, g1, f1), M.2.2.2.1, M.2.2.2.2) b t + 1) (a ++ [b]) c (by rw [hac]; simp) (by
            rw [hpq, h5, pq_inc, hl1]
            congr 1
            unfold kL
            rw [List.filter_append, List.filter_cons_of_pos]
            · simp
            · show (pE (A.2.1 b) == _) = true
              rw [hb.2, q1]; simp) (by
            unfold pIns
            rw [if_pos hb, hac, pAft_at hna])
          rw [c1]
          exact ⟨rfl, c2⟩
        · have hb : ¬ (b ∈ pRem A.1 o ∧ A.2.1 b = t) := fun hh => h3 (by
            have := hmem.mpr hh
            rw [← hseg] at this; exact this)
          obtain ⟨g', f', c1, c2⟩ := fin (m_M_placeOf (M.1, M.2.1, (M.2.2.1.1, M.2.2.1.2.1, M.2.2.1.2.2.1, g1, f1), M.2.2.2.1, M.2.2.2.2) b t + 1) [] (pRem A.1 o) rfl (by rw [hpq, h4]; exact p_m11) (by unfold pIns; rw [if_neg hb]; rfl)
          rw [c1]
          exact ⟨rfl, c2⟩
    · rw [pIf_f h, e, if_pos rfl]; exact ⟨rfl, hr⟩
  · rw [if_pos ((pm_in0 hr (by omega) ho.2).mpr h1), pIf_f (fun h => h1 h.1)]; exact ⟨rfl, hr⟩
