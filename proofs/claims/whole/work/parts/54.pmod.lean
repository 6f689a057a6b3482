/-! the tree of the reference and the tree without arrays -/
def pE (p : Int32) : Int32 := if p = -1 then 40 else p
def kL (l : List Int32) (E : Int32 → Int32) (p : Nat) : List Int32 := l.filter (fun x => E x == pq p)
def rK (g f : cA) (l : List Int32) (E : Int32 → Int32) : Prop := ∀ p, p < 41 → g p = pq (kL l E p).length ∧ seg f (40 * p) (kL l E p).length = kL l E p
def rU (U : cU) (A : pT) : Prop := (∀ j, j < 40 → U.1 j = 0 ∨ U.1 j = 1) ∧ (∀ x : Int32, 0 ≤ x.toInt → x.toInt < 40 → (U.1 x.toNatClampNeg = 1 ↔ pIn A x)) ∧ (∀ x ∈ A.1, U.2.1 x.toNatClampNeg = pE (A.2.1 x)) ∧ (∀ x, pIn A x → U.2.2.1 x.toNatClampNeg = A.2.2 x) ∧ rK U.2.2.2.1 U.2.2.2.2 A.1 (fun x => pE (A.2.1 x))
theorem pE_t {x : Int32} (h : 0 ≤ x.toInt) : pE x = x := by
  unfold pE; rw [if_neg]; rintro rfl; rw [ti_m1] at h; omega
theorem pE_b : pE (-1) = 40 := by decide
theorem pE_40 {x : Int32} (h : x.toInt < 40) : pE x = 40 ↔ x = -1 := by
  unfold pE
  split
  · rename_i e; exact ⟨fun _ => e, fun _ => rfl⟩
  · rename_i e
    refine ⟨fun e2 => ?_, fun e2 => absurd e2 e⟩
    rw [e2, ti_40] at h; omega
theorem kL_le (l : List Int32) (E : Int32 → Int32) (p : Nat) : (kL l E p).length ≤ l.length := List.length_filter_le _ _
theorem kL_m {l : List Int32} {E : Int32 → Int32} {p : Nat} {x : Int32} : x ∈ kL l E p ↔ x ∈ l ∧ E x = pq p := by
  unfold kL; rw [List.mem_filter]; simp
theorem pA_par {A : pT} (hW : pW A) {x : Int32} (hx : x ∈ A.1) : A.2.1 x = -1 ∨ (0 ≤ (A.2.1 x).toInt ∧ (A.2.1 x).toInt < 40) := by
  obtain ⟨d, hd⟩ := hW.2.2.2.1
  rcases (hd.2 x hx).2 with h | h
  · exact Or.inl h.1
  · exact Or.inr (pIn_r hW h.1)
theorem pE_r {A : pT} (hW : pW A) {x : Int32} (hx : x ∈ A.1) : ∃ P : Nat, P < 41 ∧ pE (A.2.1 x) = pq P := by
  rcases pA_par hW hx with h | ⟨h1, h2⟩
  · exact ⟨40, by omega, by rw [h]; decide⟩
  · refine ⟨(A.2.1 x).toNatClampNeg, ?_, ?_⟩
    · have := ti_ix (n := 40) h1 h2; omega
    · rw [pE_t h1, pq_of h1]
/-- a way up of the reference: at x the loop ends, or goes on at the parent -/
theorem pm_up {U : cU} {A : pT} {d : Int32 → Nat} (hW : pW A) (hd : pD A d) (hr : rU U A) {x : Int32} (hx : pIn A x) : ((x = 0 ∨ (x ≠ 0 ∧ U.2.1 x.toNatClampNeg = 40)) ∧ A.2.1 x = -1 ∧ d x = 0) ∨ (x ≠ 0 ∧ U.2.1 x.toNatClampNeg ≠ 40 ∧ U.2.1 x.toNatClampNeg = A.2.1 x ∧ pIn A (A.2.1 x) ∧ A.2.1 x ≠ -1 ∧ d x = d (A.2.1 x) + 1) := by
  by_cases e : x = 0
  · subst e; exact Or.inl ⟨Or.inl rfl, hW.2.2.1.1, hd.1⟩
  · have hx' : x ∈ A.1 := hx.resolve_left e
    have hu := hr.2.2.1 x hx'
    rcases (hd.2 x hx').2 with h | h
    · refine Or.inl ⟨Or.inr ⟨e, ?_⟩, h⟩
      rw [hu, h.1]; decide
    · have h1 := pIn_r hW h.1
      have h2 : U.2.1 x.toNatClampNeg = A.2.1 x := by rw [hu, pE_t h1.1]
      refine Or.inr ⟨e, ?_, h2, h.1, pIn_ne hW h.1, h.2⟩
      rw [h2]; intro e2
      rw [e2, ti_40] at h1; omega
theorem pm_depth {M : cM} {A : pT} {d : Int32 → Nat} (hW : pW A) (hd : pD A d) (hr : rU M.2.2.1 A) : ∀ (m : Nat) (x : Int32) (c n : Nat), pIn A x → d x = m → m < n → l_M_depth_4 M n (pq c) x = pq (c + m)
  | m, x, c, 0, _, _, h => by omega
  | m, x, c, n + 1, hx, hm, hn => by
    rw [l_M_depth_4]
    rcases pm_up hW hd hr hx with ⟨h1 | ⟨h1, h2⟩, h3, h4⟩ | ⟨h1, h2, h3, h4, h5, h6⟩
    · rw [if_pos h1]; congr 1; omega
    · rw [if_neg h1, if_pos h2]; congr 1; omega
    · rw [if_neg h1, if_neg h2, h3, pq_inc]
      obtain ⟨m', rfl⟩ : ∃ m', m = m' + 1 := ⟨m - 1, by omega⟩
      rw [pm_depth hW hd hr m' (A.2.1 x) (c + 1) n h4 (by omega) (by omega)]; congr 1; omega
theorem pm_depth' {M : cM} {A : pT} {d : Int32 → Nat} (hW : pW A) (hd : pD A d) (hr : rU M.2.2.1 A) {x : Int32} (hx : pIn A x) : m_M_depth M x = pq (d x) := by
  have h8 := pD_8 hd hx
  have := pm_depth hW hd hr (d x) x 0 40 hx rfl (by omega)
  rwa [Nat.zero_add] at this
theorem pm_top {M : cM} {A : pT} {d : Int32 → Nat} (hW : pW A) (hd : pD A d) (hr : rU M.2.2.1 A) : ∀ (m : Nat) (x : Int32) (n : Nat), pIn A x → d x = m → m < n → pB A.2.1 m x (l_M_top_2 M n x) ∧ A.2.1 (l_M_top_2 M n x) = -1
  | m, x, 0, _, _, h => by omega
  | m, x, n + 1, hx, hm, hn => by
    rw [l_M_top_2]
    rcases pm_up hW hd hr hx with ⟨h1 | ⟨h1, h2⟩, h3, h4⟩ | ⟨h1, h2, h3, h4, h5, h6⟩
    · rw [if_pos h1]
      obtain rfl : m = 0 := by omega
      exact ⟨rfl, h3⟩
    · rw [if_neg h1, if_pos h2]
      obtain rfl : m = 0 := by omega
      exact ⟨rfl, h3⟩
    · rw [if_neg h1, if_neg h2, h3]
      obtain ⟨m', rfl⟩ : ∃ m', m = m' + 1 := ⟨m - 1, by omega⟩
      obtain ⟨a, b⟩ := pm_top hW hd hr m' (A.2.1 x) n h4 (by omega) (by omega)
      exact ⟨⟨h5, a⟩, b⟩
theorem pm_top' {M : cM} {A : pT} {d : Int32 → Nat} (hW : pW A) (hd : pD A d) (hr : rU M.2.2.1 A) {x : Int32} (hx : pIn A x) : pB A.2.1 (d x) x (m_M_top M x) ∧ A.2.1 (m_M_top M x) = -1 := by
  have h8 := pD_8 hd hx
  exact pm_top hW hd hr (d x) x 40 hx rfl (by omega)
theorem pB_f {p : Int32 → Int32} : ∀ {k : Nat} {x a b : Int32}, pB p k x a → pB p k x b → a = b
  | 0, x, a, b, h1, h2 => h1.symm.trans h2
  | k + 1, x, a, b, h1, h2 => pB_f h1.2 h2.2
theorem pm_below {M : cM} {A : pT} {d : Int32 → Nat} (hW : pW A) (hd : pD A d) (hr : rU M.2.2.1 A) {o : Int32} : ∀ (m : Nat) (x : Int32) (n : Nat), pIn A x → d x = m → m < n → ((∃ k, pB A.2.1 k x o) ∧ l_M_isBelow_2 M o n x = 1) ∨ ((¬ ∃ k, pB A.2.1 k x o) ∧ l_M_isBelow_2 M o n x = 0)
  | m, x, 0, _, _, h => by omega
  | m, x, n + 1, hx, hm, hn => by
    rw [l_M_isBelow_2]
    have stop : A.2.1 x = -1 → x ≠ o → ¬ ∃ k, pB A.2.1 k x o := by
      rintro h1 h2 ⟨k, hk⟩
      cases k with
      | zero => exact h2 hk
      | succ k => exact hk.1 h1
    rcases pm_up hW hd hr hx with ⟨h1 | ⟨h1, h2⟩, h3, h4⟩ | ⟨h1, h2, h3, h4, h5, h6⟩
    · rw [if_pos h1]
      by_cases e : x = o
      · rw [if_pos e]; exact Or.inl ⟨⟨0, e⟩, rfl⟩
      · rw [if_neg e]; exact Or.inr ⟨stop h3 e, rfl⟩
    · rw [if_neg h1, if_pos h2]
      by_cases e : x = o
      · rw [if_pos e]; exact Or.inl ⟨⟨0, e⟩, rfl⟩
      · rw [if_neg e]; exact Or.inr ⟨stop h3 e, rfl⟩
    · rw [if_neg h1, if_neg h2, h3]
      by_cases e : x = o
      · rw [if_pos e, if_pos e]; exact Or.inl ⟨⟨0, e⟩, rfl⟩
      · rw [if_neg e]
        obtain ⟨m', rfl⟩ : ∃ m', m = m' + 1 := ⟨m - 1, by omega⟩
        rcases pm_below hW hd hr (o := o) m' (A.2.1 x) n h4 (by omega) (by omega) with ⟨⟨k, hk⟩, b⟩ | ⟨a, b⟩
        · exact Or.inl ⟨⟨k + 1, h5, hk⟩, b⟩
        · refine Or.inr ⟨?_, b⟩
          rintro ⟨k, hk⟩
          cases k with
          | zero => exact e hk
          | succ k => exact a ⟨k, hk.2⟩
theorem pm_below' {M : cM} {A : pT} (hW : pW A) (hr : rU M.2.2.1 A) {x o : Int32} (hx : pIn A x) : ((∃ k, pB A.2.1 k x o) ∧ m_M_isBelow M x o = 1) ∨ ((¬ ∃ k, pB A.2.1 k x o) ∧ m_M_isBelow M x o = 0) := by
  obtain ⟨d, hd⟩ := hW.2.2.2.1
  have h8 := pD_8 hd hx
  exact pm_below hW hd hr (d x) x 40 hx rfl (by omega)
theorem pq_sub (a b : Nat) : pq (a + b) - pq a = pq b := by
  rw [← pq_add, Int32.add_comm]; exact Int32.add_sub_cancel _ _
theorem pm_in0 {U : cU} {A : pT} (hr : rU U A) {x : Int32} (h0 : 0 ≤ x.toInt) (h1 : x.toInt < 40) : (U.1 x.toNatClampNeg = 0 ↔ ¬ pIn A x) := by
  rw [← hr.2.1 x h0 h1]
  rcases hr.1 x.toNatClampNeg (ti_ix h0 h1) with h | h
  · rw [h]; exact ⟨fun _ => by decide, fun _ => rfl⟩
  · rw [h]; exact ⟨fun e => absurd e (by decide), fun e => absurd rfl e⟩
theorem pm_height {M : cM} {A : pT} {d : Int32 → Nat} {ob : Nat} (hW : pW A) (hd : pD A d) (hr : rU M.2.2.1 A) (hob : M.1.2.1 = pq ob) (h40 : ob ≤ 40) {o : Int32} (ho : pIn A o) : ∀ (m i n h : Nat), 1 ≤ i → i + m = ob → m < n → h ≤ 8 →
    ∃ H, l_M_height_11 M o n (pq h) (pq (d o)) (pq i) = pq H ∧ H ≤ 8 ∧ h ≤ H ∧ (∀ x ∈ A.1, i ≤ x.toNatClampNeg → x.toNatClampNeg < ob → ∀ k, pB A.2.1 k x o → k ≤ H) ∧ (H = h ∨ ∃ x ∈ A.1, pB A.2.1 H x o)
  | m, i, 0, h, _, _, hh, _ => by omega
  | 0, i, n + 1, h, h0, h1, h2, h3 => by
    refine ⟨h, ?_, h3, Nat.le_refl _, fun x hx a b => by omega, Or.inl rfl⟩
    rw [l_M_height_11, hob, if_pos ((pq_le (by omega) (by omega)).mpr (by omega))]
  | m + 1, i, n + 1, h, h0, h1, h2, h3 => by
    rw [l_M_height_11, hob, if_neg (fun h => by have := (pq_le (by omega) (by omega)).mp h; omega), pq_inc, pq_n (by omega)]
    have hi : (pq i).toInt = i := pq_i (by omega)
    have hin : (pq i).toNatClampNeg = i := pq_n (by omega)
    have next : ∀ h', h' ≤ 8 → h ≤ h' → (∀ k, pIn A (pq i) → pB A.2.1 k (pq i) o → k ≤ h') → (h' = h ∨ ∃ x ∈ A.1, pB A.2.1 h' x o) → ∃ H, l_M_height_11 M o n (pq h') (pq (d o)) (pq (i + 1)) = pq H ∧ H ≤ 8 ∧ h ≤ H ∧ (∀ x ∈ A.1, i ≤ x.toNatClampNeg → x.toNatClampNeg < ob → ∀ k, pB A.2.1 k x o → k ≤ H) ∧ (H = h ∨ ∃ x ∈ A.1, pB A.2.1 H x o) := by
      intro h' a b c g
      obtain ⟨H, e1, e2, e3, e4, e5⟩ := pm_height hW hd hr hob h40 ho m (i + 1) n h' (by omega) (by omega) (by omega) a
      refine ⟨H, e1, e2, by omega, fun x hx y1 y2 k hk => ?_, ?_⟩
      · by_cases e : x.toNatClampNeg = i
        · have ex : x = pq i := by rw [← e, pq_of]; have := hW.2.1 x hx; omega
          have := c k (by rw [← ex]; exact Or.inr hx) (by rw [← ex]; exact hk)
          omega
        · exact e4 x hx (by omega) y2 k hk
      · rcases e5 with e5 | e5
        · rw [e5]; exact g
        · exact Or.inr e5
    by_cases hx : pIn A (pq i)
    · have hz := (pm_in0 hr (x := pq i) (by omega) (by omega))
      rw [hin] at hz
      rw [if_neg (fun e => hz.mp e hx)]
      rcases pm_below' hW hr (o := o) hx with ⟨⟨k, hk⟩, e⟩ | ⟨hk, e⟩
      · rw [e, if_neg (by decide), pm_depth' hW hd hr hx]
        have hdk := (pB_d hW hd k _ o hx hk).2
        have hd8 := pD_8 hd hx
        rw [hdk, pq_sub]
        have hA : pq i ∈ A.1 := by
          refine pIn_l hx ?_
          omega
        by_cases hkh : k ≤ h
        · rw [if_pos ((pq_le (by omega) (by omega)).mpr hkh)]
          exact next h h3 (Nat.le_refl _) (fun j hj hj2 => by rw [pB_u hW hx hj2 hk]; exact hkh) (Or.inl rfl)
        · rw [if_neg (fun e => hkh ((pq_le (by omega) (by omega)).mp e))]
          exact next k (by omega) (by omega) (fun j hj hj2 => by rw [pB_u hW hx hj2 hk]; exact Nat.le_refl _) (Or.inr ⟨pq i, hA, hk⟩)
      · rw [e, if_pos rfl]
        exact next h h3 (Nat.le_refl _) (fun j hj hj2 => absurd ⟨j, hj2⟩ hk) (Or.inl rfl)
    · have hz := (pm_in0 hr (x := pq i) (by omega) (by omega))
      rw [hin] at hz
      rw [if_pos (hz.mpr hx)]
      exact next h h3 (Nat.le_refl _) (fun j hj hj2 => absurd hj hx) (Or.inl rfl)
theorem pm_may {M : cM} {A : pT} {ob : Nat} (hW : pW A) (hr : rU M.2.2.1 A) (hob : M.1.2.1 = pq ob) (h1ob : 1 ≤ ob) (h40 : ob ≤ 40) (hA : ∀ x ∈ A.1, x.toNatClampNeg < ob) {o t : Int32} (ho : o ∈ A.1) (ht : 0 ≤ t.toInt ∧ t.toInt < 40) : (pMay A o t ∧ m_M_mayGo M o t = 1) ∨ (¬ pMay A o t ∧ m_M_mayGo M o t = 0) := by
  obtain ⟨d, hd⟩ := hW.2.2.2.1
  unfold m_M_mayGo
  by_cases h2 : pIn A t
  · rw [if_neg (fun e => (pm_in0 hr ht.1 ht.2).mp e h2)]
    rcases pm_below' hW hr (o := o) h2 with ⟨hk, e⟩ | ⟨hk, e⟩
    · rw [e, if_neg (by decide)]
      exact Or.inr ⟨fun h => h.2.2.2.1 hk, rfl⟩
    · rw [e, if_pos rfl]
      obtain ⟨a, b⟩ := pm_top' hW hd hr h2
      by_cases e0 : m_M_top M t = 0
      · rw [if_pos e0, pm_depth' hW hd hr h2, pq_inc]
        rw [e0] at a
        have h8 := pD_8 hd h2
        obtain ⟨H, e1, e2, e3, e4, e5⟩ := pm_height hW hd hr hob h40 (Or.inr ho) (ob - 1) 1 40 0 (by omega) (by omega) (by omega) (by omega)
        have e1' : m_M_height M o = pq H := by
          unfold m_M_height
          rw [pm_depth' hW hd hr (Or.inr ho)]; exact e1
        have hat : ∃ x ∈ A.1, pB A.2.1 H x o := by
          rcases e5 with e5 | e5
          · rw [e5]; exact ⟨o, ho, rfl⟩
          · exact e5
        rw [e1', pq_add, show (8 : Int32) = pq 8 from rfl]
        by_cases hh : 8 < d t + 1 + H
        · rw [if_pos ((pq_lt (by omega) (by omega)).mpr hh)]
          refine Or.inr ⟨fun hm => ?_, rfl⟩
          obtain ⟨x, hx, hxk⟩ := hat
          have := hm.2.2.2.2 x hx (d t) H a hxk
          omega
        · rw [if_neg (fun e => hh ((pq_lt (by omega) (by omega)).mp e))]
          refine Or.inl ⟨⟨Or.inr ho, h2, ⟨d t, a⟩, hk, fun x hx j k hj hk => ?_⟩, rfl⟩
          have h3 := e4 x hx (by have := hW.2.1 x hx; have := pn_i (x := x) (by omega); omega) (hA x hx) k hk
          rw [pB_u hW h2 hj a]; omega
      · rw [if_neg e0]
        refine Or.inr ⟨fun hm => e0 ?_, rfl⟩
        obtain ⟨k, hk2⟩ := hm.2.2.1
        have h5 := (pB_d hW hd k t 0 h2 hk2).2
        have h6 := hd.1
        have h7 : k = d t := by omega
        subst h7
        exact pB_f a hk2
  · rw [if_pos ((pm_in0 hr ht.1 ht.2).mpr h2)]
    exact Or.inr ⟨fun h => h2 h.2.1, rfl⟩
