/-! the reference's rows and order -/
def rR (R : cR) (L : cL) (c md : Nat) : Prop := R.1 = pq c ∧ R.2.1 = pq (md + 1) ∧ ∀ x ∈ rws c, R.2.2.1 x.toNatClampNeg = zlS L x ∧ R.2.2.2.1 x.toNatClampNeg = zlN L x ∧ R.2.2.2.2.1 x.toNatClampNeg = zlT L x ∧ R.2.2.2.2.2.1 x.toNatClampNeg = zlO L x ∧ R.2.2.2.2.2.2.1 x.toNatClampNeg = zlP L x ∧ R.2.2.2.2.2.2.2 x.toNatClampNeg = zlB L x
def rN (g : cA) (n : Int32) (f : cA) : Prop := ∀ x : Int32, 0 ≤ x.toInt → x.toInt ≤ 300 → (g ((301 * n) + x).toNatClampNeg = 0 ↔ f x.toNatClampNeg = 0)
theorem mk_0 {M : cM} {n : Int32} {f : cA} (h : rN M.2.1.1 n f) {x : Int32} (h0 : 0 ≤ x.toInt) (h1 : x.toInt ≤ 300) : m_M_knowsRow M n x = 0 ↔ f x.toNatClampNeg = 0 := h x h0 h1
theorem before_0 {M : cM} {L : cL} {c md : Nat} (hR : rR M.1 L c md) {x y : Int32} (hx : x ∈ rws c) (hy : y ∈ rws c) : m_M_isBefore M x y = 0 ↔ ¬ pLt L x y := by
  unfold m_M_isBefore
  obtain ⟨-, x2, x3, -⟩ := hR.2.2 x hx
  obtain ⟨-, y2, y3, -⟩ := hR.2.2 y hy
  rw [x2, x3, y2, y3]
  unfold pLt
  have a := @Int32.le_iff_toInt_le (zlT L y) (zlT L x)
  have b := @Int32.le_iff_toInt_le (zlN L y) (zlN L x)
  by_cases h2 : zlT L x = zlT L y
  · rw [if_pos h2]
    have h2' : (zlT L x).toInt = (zlT L y).toInt := by rw [h2]
    by_cases h3 : zlN L y ≤ zlN L x
    · rw [if_pos h3]
      have := b.mp h3
      exact ⟨fun _ h => by omega, fun _ => rfl⟩
    · rw [if_neg h3]
      have := mt b.mpr h3
      exact ⟨fun e => absurd e (by decide), fun h => absurd (Or.inr ⟨h2', by omega⟩) h⟩
  · rw [if_neg h2]
    have h2' : (zlT L x).toInt ≠ (zlT L y).toInt := fun e => h2 (pi_ext e)
    by_cases h3 : zlT L y ≤ zlT L x
    · rw [if_pos h3]
      have := a.mp h3
      exact ⟨fun _ h => by omega, fun _ => rfl⟩
    · rw [if_neg h3]
      have := mt a.mpr h3
      exact ⟨fun e => absurd e (by decide), fun h => absurd (Or.inl (by omega)) h⟩
/-- isUndone -/
theorem pv_un {M : cM} {L : cL} {c md : Nat} (hc : c ≤ 300) (hR : rR M.1 L c md) {n x : Int32} {f : cA} (hN : rN M.2.1.1 n f) : ∀ (m i k : Nat), 1 ≤ i → i + m = c + 1 → m < k →
    ((∃ v ∈ rws c, i ≤ v.toNatClampNeg ∧ zlS L v = 4 ∧ zlO L v = x ∧ ¬ f v.toNatClampNeg = 0) ∧ l_M_isUndone_2 M n x k (pq i) = 1) ∨ ((¬ ∃ v ∈ rws c, i ≤ v.toNatClampNeg ∧ zlS L v = 4 ∧ zlO L v = x ∧ ¬ f v.toNatClampNeg = 0) ∧ l_M_isUndone_2 M n x k (pq i) = 0)
  | m, i, 0, _, _, h => by omega
  | 0, i, k + 1, h0, h1, h2 => by
    refine Or.inr ⟨?_, ?_⟩
    · rintro ⟨v, hv, hi, _⟩
      have := (rws_m hc).mp hv
      have := pn_i (x := v) (by omega)
      omega
    · rw [l_M_isUndone_2, hR.1, if_pos ((pq_lt (by omega) (by omega)).mpr (by omega))]
  | m + 1, i, k + 1, h0, h1, h2 => by
    have hin : (pq i).toNatClampNeg = i := pq_n (by omega)
    have hii : (pq i).toInt = i := pq_i (by omega)
    have hi : pq i ∈ rws c := (rws_m hc).mpr (by omega)
    obtain ⟨x1, x2, x3, x4, x5, x6⟩ := hR.2.2 _ hi
    rw [l_M_isUndone_2, hR.1, if_neg (fun h => by have := (pq_lt (by omega) (by omega)).mp h; omega), pq_inc, x1, x4]
    have IH := pv_un hc hR hN (x := x) m (i + 1) k (by omega) (by omega) (by omega)
    have step : ¬ (zlS L (pq i) = 4 ∧ zlO L (pq i) = x ∧ ¬ f (pq i).toNatClampNeg = 0) → ((∃ v ∈ rws c, i ≤ v.toNatClampNeg ∧ zlS L v = 4 ∧ zlO L v = x ∧ ¬ f v.toNatClampNeg = 0) ∧ l_M_isUndone_2 M n x k (pq (i + 1)) = 1) ∨ ((¬ ∃ v ∈ rws c, i ≤ v.toNatClampNeg ∧ zlS L v = 4 ∧ zlO L v = x ∧ ¬ f v.toNatClampNeg = 0) ∧ l_M_isUndone_2 M n x k (pq (i + 1)) = 0) := by
      intro hno
      rcases IH with ⟨⟨v, hv, a, b⟩, e⟩ | ⟨a, e⟩
      · exact Or.inl ⟨⟨v, hv, by omega, b⟩, e⟩
      · refine Or.inr ⟨?_, e⟩
        rintro ⟨v, hv, g1, g2⟩
        have hv1 := (rws_m hc).mp hv
        by_cases ev : v.toNatClampNeg = i
        · have : v = pq i := by rw [← ev, pq_of (by omega)]
          rw [this] at g2
          exact hno g2
        · exact a ⟨v, hv, by omega, g2⟩
    have hkn := mk_0 hN (x := pq i) (by omega) (by omega)
    by_cases e4 : zlS L (pq i) = 4
    · rw [if_pos e4]
      by_cases eo : zlO L (pq i) = x
      · rw [if_pos eo]
        by_cases ek : m_M_knowsRow M n (pq i) = 0
        · rw [if_pos ek]; exact step (fun h => h.2.2 (hkn.mp ek))
        · rw [if_neg ek]
          exact Or.inl ⟨⟨pq i, hi, by omega, e4, eo, fun h => ek (hkn.mpr h)⟩, rfl⟩
      · rw [if_neg eo]; exact step (fun h => eo h.2.1)
    · rw [if_neg e4]; exact step (fun h => e4 h.1)
theorem pv_un' {M : cM} {L : cL} {c md : Nat} (hL : pLog L c md) (hR : rR M.1 L c md) {n x : Int32} {f : cA} (hN : rN M.2.1.1 n f) (hf : pKn c f) (hx : x ∈ rws c) : (pu L f x ∧ m_M_isUndone M n x = 1) ∨ (¬ pu L f x ∧ m_M_isUndone M n x = 0) := by
  have hc := hL.1.1
  have key : pu L f x ↔ ∃ v ∈ rws c, 1 ≤ v.toNatClampNeg ∧ zlS L v = 4 ∧ zlO L v = x ∧ ¬ f v.toNatClampNeg = 0 := by
    constructor
    · intro h
      rcases (hL.2.2.2.2.2.1 x hx).2.2.2.2.2.2 with e | ⟨h1, h2, h3⟩
      · unfold pu at h
        rw [e] at h
        exact absurd hf.1 h
      · have := pn_i (x := zlV L x) (by omega)
        exact ⟨zlV L x, (rws_m hc).mpr h1, by omega, h2, h3, h⟩
    · rintro ⟨v, hv, _, h4, ho, hk⟩
      have := ((hL.2.2.2.2.2.1 v hv).2.2.2.1 h4).2.2.2
      unfold pu
      rw [ho] at this
      rw [this]; exact hk
  rw [key]
  exact pv_un hc hR hN c 1 301 (by omega) (by omega) (by omega)
/-- findOrder -/
theorem pv_in {M : cM} {L : cL} {c md : Nat} (hR : rR M.1 L c md) {n r o : Int32} (hr : r ∈ rws c) : ∀ (k j : Nat) (f : cA), k ≤ 300 → k < j → (∀ i, i < k → f i ∈ rws c) → ∃ (f' : cA) (k' : Nat), l_M_findOrder_32 M n r o j (pq k) f = (pq k', f') ∧ pSh (fun y => pLt L r y) f f' k k'
  | k, 0, f, _, h, _ => by omega
  | 0, j + 1, f, h1, h2, _ => by
    refine ⟨f, 0, ?_, pSh_0 (Or.inl rfl)⟩
    rw [l_M_findOrder_32, if_pos (by rw [← pq_0]; exact (pq_le (by omega) (by omega)).mpr (by omega))]
  | k + 1, j + 1, f, h1, h2, hm => by
    have hle : ¬ pq (k + 1) ≤ 0 := fun h => by
      have := (pq_le (b := 0) (by omega) (by omega)).mp h
      omega
    have e0 := before_0 (M := (M.1, M.2.1, M.2.2.1, (M.2.2.2.1.1, M.2.2.2.1.2.1, o, f), M.2.2.2.2)) hR hr (hm k (by omega))
    rw [l_M_findOrder_32, if_neg hle, pq_dec', pq_dec, pq_n (by omega), pq_n (by omega)]
    by_cases h : pLt L r (f k)
    · rw [if_neg (fun e => e0.mp e h)]
      obtain ⟨f', k', e, g⟩ := pv_in hR (n := n) (o := o) hr k j (upd f (k + 1) (f k)) (by omega) (by omega) (fun i hi => by rw [pk_un (by omega)]; exact hm i (by omega))
      exact ⟨f', k', e, pSh_s h g⟩
    · rw [if_pos (e0.mpr h)]
      exact ⟨f, k + 1, rfl, pSh_0 (Or.inr (by rw [Nat.add_sub_cancel]; exact h))⟩
theorem pv_fo {M : cM} {L : cL} {c md : Nat} (hL : pLog L c md) (hR : rR M.1 L c md) {n : Int32} {f : cA} (hN : rN M.2.1.1 n f) : ∀ (m i k j : Nat) (g : cA), 1 ≤ i → i + m = c + 1 → k < i → m < j → (seg g 0 k).Pairwise (pLt L) → (∀ x, x ∈ seg g 0 k ↔ x ∈ rws c ∧ x.toNatClampNeg < i ∧ kb f x = true) →
    ∃ (k' : Nat) (g' : cA), l_M_findOrder_7 M n j (pq i) (pq k) g = (M.2.2.2.1.1, M.2.2.2.1.2.1, pq k', g') ∧ k' ≤ 300 ∧ (seg g' 0 k').Pairwise (pLt L) ∧ (∀ x, x ∈ seg g' 0 k' ↔ x ∈ rws c ∧ kb f x = true)
  | m, i, k, 0, g, _, _, _, h, _, _ => by omega
  | 0, i, k, j + 1, g, h0, h1, hk, h2, hp, hm => by
    have hc := hL.1.1
    refine ⟨k, g, ?_, by omega, hp, fun x => ?_⟩
    · rw [l_M_findOrder_7, hR.1, if_pos ((pq_lt (by omega) (by omega)).mpr (by omega))]
    · rw [hm]
      constructor
      · rintro ⟨a, _, b⟩; exact ⟨a, b⟩
      · rintro ⟨a, b⟩
        have := (rws_m hc).mp a
        have := pn_i (x := x) (by omega)
        exact ⟨a, by omega, b⟩
  | m + 1, i, k, j + 1, g, h0, h1, hk, h2, hp, hm => by
    have hc := hL.1.1
    have hin : (pq i).toNatClampNeg = i := pq_n (by omega)
    have hii : (pq i).toInt = i := pq_i (by omega)
    have hi : pq i ∈ rws c := (rws_m hc).mpr (by omega)
    have hkn := mk_0 (M := (M.1, M.2.1, M.2.2.1, (M.2.2.2.1.1, M.2.2.2.1.2.1, pq k, g), M.2.2.2.2)) hN (x := pq i) (by omega) (by omega)
    have huniq : ∀ x : Int32, x ∈ rws c → x.toNatClampNeg = i → x = pq i := fun x hx e => by
      have := (rws_m hc).mp hx
      rw [← e, pq_of (by omega)]
    rw [l_M_findOrder_7, hR.1, if_neg (fun h => by have := (pq_lt (by omega) (by omega)).mp h; omega), pq_inc]
    by_cases ek : m_M_knowsRow (M.1, M.2.1, M.2.2.1, (M.2.2.2.1.1, M.2.2.2.1.2.1, pq k, g), M.2.2.2.2) n (pq i) = 0
    · rw [if_pos ek]
      refine pv_fo hL hR hN m (i + 1) k j g (by omega) (by omega) (by omega) (by omega) hp (fun x => ?_)
      rw [hm]
      constructor
      · rintro ⟨a, b, d⟩; exact ⟨a, by omega, d⟩
      · rintro ⟨a, b, d⟩
        refine ⟨a, ?_, d⟩
        by_cases e : x.toNatClampNeg = i
        · rw [huniq x a e] at d
          exact absurd (hkn.mp ek) (kb_t.mp d)
        · omega
    · rw [if_neg ek]
      have hmem : ∀ q, q < k → g q ∈ rws c := fun q hq => ((hm (g q)).mp (seg_mem.mpr ⟨q, by omega, by omega, rfl⟩)).1
      obtain ⟨g1, k1, e, sh⟩ := pv_in hR (n := n) (o := pq k) hi k 301 g (by omega) (by omega) hmem
      rw [e, pq_inc, pq_n (n := k1) (by have := sh.1; omega)]
      obtain ⟨s1, s2, s3, s4⟩ := pSh_seg (r := pq i) sh
      refine pv_fo hL hR hN m (i + 1) (k + 1) j _ (by omega) (by omega) (by omega) (by omega) ?_ (fun x => ?_)
      · rw [s1]
        refine pw_ins (by rw [← s2]; exact hp) s3 ?_
        rcases s4 with h | ⟨a', y, h1, h2⟩
        · exact Or.inl h
        · refine Or.inr ⟨a', y, h1, ?_⟩
          have hy : y ∈ seg g 0 k := by rw [s2, h1]; simp
          have hy2 := (hm y).mp hy
          have hne : y ≠ pq i := fun e => by rw [e, hin] at hy2; omega
          rcases pw_tot hL.2.2.2.2.1 (hL.2.2.2.1.mem_iff.mpr hy2.1) (hL.2.2.2.1.mem_iff.mpr hi) hne with h | h
          · exact h
          · exact absurd h h2
      · have : x ∈ seg (upd g1 k1 (pq i)) 0 (k + 1) ↔ x ∈ seg g 0 k ∨ x = pq i := by
          rw [s1, s2, List.mem_append, List.mem_append, List.mem_cons]
          constructor
          · rintro (h | h | h)
            · exact Or.inl (Or.inl h)
            · exact Or.inr h
            · exact Or.inl (Or.inr h)
          · rintro ((h | h) | h)
            · exact Or.inl h
            · exact Or.inr (Or.inr h)
            · exact Or.inr (Or.inl h)
        rw [this, hm]
        constructor
        · rintro (⟨a, b, d⟩ | h)
          · exact ⟨a, by omega, d⟩
          · rw [h]; exact ⟨hi, by omega, kb_t.mpr (fun h => ek (hkn.mpr h))⟩
        · rintro ⟨a, b, d⟩
          by_cases e : x.toNatClampNeg = i
          · exact Or.inr (huniq x a e)
          · exact Or.inl ⟨a, by omega, d⟩
theorem pv_fo' {M : cM} {L : cL} {c md : Nat} (hL : pLog L c md) (hR : rR M.1 L c md) {n : Int32} {f : cA} (hN : rN M.2.1.1 n f) : ∃ g' : cA, m_M_findOrder M n = (M.2.2.2.1.1, M.2.2.2.1.2.1, pq ((seg (zlOrd L) 0 c).filter (kb f)).length, g') ∧ ((seg (zlOrd L) 0 c).filter (kb f)).length ≤ 300 ∧ seg g' 0 ((seg (zlOrd L) 0 c).filter (kb f)).length = (seg (zlOrd L) 0 c).filter (kb f) := by
  have hc := hL.1.1
  obtain ⟨k', g', e, h300, h1, h2⟩ := pv_fo hL hR hN c 1 0 301 M.2.2.2.1.2.2.2 (by omega) (by omega) (by omega) (by omega) List.Pairwise.nil (fun x => ⟨fun h => (List.not_mem_nil h).elim, fun ⟨a, b, _⟩ => by
    have := (rws_m hc).mp a
    have := pn_i (x := x) (by omega)
    omega⟩)
  have eq : seg g' 0 k' = (seg (zlOrd L) 0 c).filter (kb f) := by
    refine pw_eq h1 (hL.2.2.2.2.1.filter _) (fun x => ?_)
    rw [h2, List.mem_filter, hL.2.2.2.1.mem_iff]
  have hk : k' = ((seg (zlOrd L) 0 c).filter (kb f)).length := by rw [← eq, seg_len]
  rw [← hk]
  exact ⟨g', e, h300, eq⟩
/-- costOf -/
theorem pv_co {M : cM} {L : cL} {c md : Nat} (hc : c ≤ 300) (hR : rR M.1 L c md) {n r : Int32} {f : cA} (hN : rN M.2.1.1 n f) (hr : r ∈ rws c) : ∀ (m i k j : Nat), 1 ≤ i → i + m = c + 1 → m < j → l_M_costOf_38 M n j r (pq k) (pq i) = pq (k + ((seg pq i m).filter (fun x => pQ L f x && (m_L_isAhead L x r == 0))).length)
  | m, i, k, 0, _, _, h => by omega
  | 0, i, k, j + 1, h0, h1, h2 => by
    rw [l_M_costOf_38, hR.1, if_pos ((pq_lt (by omega) (by omega)).mpr (by omega))]; rfl
  | m + 1, i, k, j + 1, h0, h1, h2 => by
    have hin : (pq i).toNatClampNeg = i := pq_n (by omega)
    have hii : (pq i).toInt = i := pq_i (by omega)
    have hi : pq i ∈ rws c := (rws_m hc).mpr (by omega)
    obtain ⟨x1, x2, x3, x4, x5, x6⟩ := hR.2.2 _ hi
    have hkn := mk_0 hN (x := pq i) (by omega) (by omega)
    have hbf := before_0 hR hi hr
    rw [l_M_costOf_38, hR.1, if_neg (fun h => by have := (pq_lt (by omega) (by omega)).mp h; omega), pq_inc, x1, seg_s]
    by_cases ek : m_M_knowsRow M n (pq i) = 0
    · rw [if_pos ek, pv_co hc hR hN hr m (i + 1) k j (by omega) (by omega) (by omega), List.filter_cons_of_neg]
      intro h
      rw [Bool.and_eq_true] at h
      unfold pQ at h
      rw [Bool.and_eq_true] at h
      exact kb_t.mp h.1.1 (hkn.mp ek)
    · rw [if_neg ek]
      have hkb : kb f (pq i) = true := kb_t.mpr (fun h => ek (hkn.mpr h))
      by_cases e4 : zlS L (pq i) = 4
      · rw [if_pos e4, pv_co hc hR hN hr m (i + 1) k j (by omega) (by omega) (by omega), List.filter_cons_of_neg]
        intro h
        rw [Bool.and_eq_true] at h
        unfold pQ at h
        rw [Bool.and_eq_true, e4] at h
        exact absurd h.1.2 (by decide)
      · rw [if_neg e4]
        have hq : pQ L f (pq i) = true := by unfold pQ; rw [hkb, Bool.true_and]; simp [e4]
        by_cases eb : m_M_isBefore M (pq i) r = 0
        · rw [if_pos eb, pq_inc, pv_co hc hR hN hr m (i + 1) (k + 1) j (by omega) (by omega) (by omega), List.filter_cons_of_pos, List.length_cons]
          · congr 1; omega
          · rw [hq, Bool.true_and, beq_iff_eq]; exact ahead_0.mpr (hbf.mp eb)
        · rw [if_neg eb, pv_co hc hR hN hr m (i + 1) k j (by omega) (by omega) (by omega), List.filter_cons_of_neg]
          intro h
          rw [hq, Bool.true_and, beq_iff_eq] at h
          exact eb (hbf.mpr (ahead_0.mp h))
theorem pv_cost {M : cM} {L : cL} {c md : Nat} (hL : pLog L c md) (hR : rR M.1 L c md) {n r : Int32} {f : cA} (hN : rN M.2.1.1 n f) (hr : r ∈ rws c) : m_M_costOf M n r = pCost L c f (if zlS L r = 4 then zlO L r else r) := by
  have hc := hL.1.1
  obtain ⟨x1, x2, x3, x4, x5, x6⟩ := hR.2.2 _ hr
  have hfr := pFrom_r hL hr
  unfold m_M_costOf pCost
  rw [x1, x4]
  have key : ∀ v ∈ rws c, (if m_M_knowsRow M n v = 0 then (0 : Int32) else l_M_costOf_38 M n 301 v 0 1) = if f v.toNatClampNeg = 0 then 0 else pq ((rws c).filter (fun x => pQ L f x && (m_L_isAhead L x v == 0))).length := fun v hv => by
    have hv1 := (rws_m hc).mp hv
    have hkn := mk_0 hN (x := v) (by omega) (by omega)
    by_cases e : f v.toNatClampNeg = 0
    · rw [if_pos (hkn.mpr e), if_pos e]
    · rw [if_neg (fun h => e (hkn.mp h)), if_neg e]
      have := pv_co hc hR hN hv c 1 0 301 (by omega) (by omega) (by omega)
      rw [Nat.zero_add] at this
      exact this
  by_cases e4 : zlS L r = 4
  · rw [if_pos e4] at hfr ⊢
    rw [if_pos e4]; exact key _ hfr
  · rw [if_neg e4] at hfr ⊢
    rw [if_neg e4]; exact key _ hfr
/-- knownRows -/
theorem pv_kr {M : cM} {L : cL} {c md : Nat} (hc : c ≤ 300) (hR : rR M.1 L c md) {n : Int32} {f : cA} (hN : rN M.2.1.1 n f) : ∀ (m i k j : Nat), 1 ≤ i → i + m = c + 1 → m < j → l_M_knownRows_4 M n j (pq k) (pq i) = pq (k + ((seg pq i m).filter (kb f)).length)
  | m, i, k, 0, _, _, h => by omega
  | 0, i, k, j + 1, h0, h1, h2 => by
    rw [l_M_knownRows_4, hR.1, if_pos ((pq_lt (by omega) (by omega)).mpr (by omega))]; rfl
  | m + 1, i, k, j + 1, h0, h1, h2 => by
    have hin : (pq i).toNatClampNeg = i := pq_n (by omega)
    have hii : (pq i).toInt = i := pq_i (by omega)
    have hkn := mk_0 hN (x := pq i) (by omega) (by omega)
    rw [l_M_knownRows_4, hR.1, if_neg (fun h => by have := (pq_lt (by omega) (by omega)).mp h; omega), pq_inc, seg_s]
    by_cases ek : m_M_knowsRow M n (pq i) = 0
    · rw [if_pos ek, ← pq_0, pq_add, Nat.add_zero, pv_kr hc hR hN m (i + 1) k j (by omega) (by omega) (by omega), List.filter_cons_of_neg]
      exact fun h => kb_t.mp h (hkn.mp ek)
    · rw [if_neg ek, pq_inc, pv_kr hc hR hN m (i + 1) (k + 1) j (by omega) (by omega) (by omega), List.filter_cons_of_pos, List.length_cons]
      · congr 1; omega
      · exact kb_t.mpr (fun h => ek (hkn.mpr h))
theorem pv_kr' {M : cM} {L : cL} {c md : Nat} (hL : pLog L c md) (hR : rR M.1 L c md) {n : Int32} {f : cA} (hN : rN M.2.1.1 n f) : m_M_knownRows M n = pq ((seg (zlOrd L) 0 c).filter (kb f)).length := by
  have := pv_kr hL.1.1 hR hN c 1 0 301 (by omega) (by omega) (by have := hL.1.1; omega)
  rw [Nat.zero_add] at this
  rw [(hL.2.2.2.1.filter _).length_eq]
  exact this
