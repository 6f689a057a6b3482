/-! a row more -/
theorem ahead_0 {L : cL} {x y : Int32} : m_L_isAhead L x y = 0 ↔ ¬ pLt L x y := by
  unfold m_L_isAhead pLt
  have a := @Int32.lt_iff_toInt_lt (zlT L x) (zlT L y)
  have b := @Int32.le_iff_toInt_le (zlN L y) (zlN L x)
  by_cases h1 : zlT L x < zlT L y
  · rw [if_pos h1]
    refine ⟨fun e => absurd e (by decide), fun e => absurd (Or.inl (a.mp h1)) e⟩
  · rw [if_neg h1]
    have h1' := mt a.mpr h1
    by_cases h2 : zlT L x = zlT L y
    · rw [if_pos h2]
      have h2' : (zlT L x).toInt = (zlT L y).toInt := by rw [h2]
      by_cases h3 : zlN L y ≤ zlN L x
      · rw [if_pos h3]
        have := b.mp h3
        exact ⟨fun _ h => by omega, fun _ => rfl⟩
      · rw [if_neg h3]
        have := mt b.mpr h3
        exact ⟨fun e => absurd e (by decide), fun h => absurd (Or.inr ⟨h2', by omega⟩) h⟩
    · rw [if_neg h2]
      have h2' : (zlT L x).toInt ≠ (zlT L y).toInt := fun e => h2 (pi_ext e)
      exact ⟨fun _ h => by omega, fun _ => rfl⟩
theorem pa_put {L : cL} {r : Int32} : ∀ (k n : Nat) (f : cA), k ≤ 300 → k < n → ∃ (f' : cA) (k' : Nat), l_L_putInOrder_5 L r n (pq k) f = (L.1, L.2.1, L.2.2.1, L.2.2.2.1, L.2.2.2.2.1, L.2.2.2.2.2.1, L.2.2.2.2.2.2.1, upd f' k' r, L.2.2.2.2.2.2.2.2.1, L.2.2.2.2.2.2.2.2.2) ∧ pSh (fun y => pLt L r y) f f' k k'
  | k, 0, f, _, h => by omega
  | 0, n + 1, f, h1, h2 => by
    refine ⟨f, 0, ?_, pSh_0 (Or.inl rfl)⟩
    rw [l_L_putInOrder_5, if_pos (by rw [← pq_0]; exact (pq_le (by omega) (by omega)).mpr (by omega)), pq_n (by omega)]
  | k + 1, n + 1, f, h1, h2 => by
    have hle : ¬ pq (k + 1) ≤ 0 := fun h => by
      have := (pq_le (b := 0) (by omega) (by omega)).mp h
      omega
    have e0 : ∀ y, m_L_isAhead (L.1, L.2.1, L.2.2.1, L.2.2.2.1, L.2.2.2.2.1, L.2.2.2.2.2.1, L.2.2.2.2.2.2.1, f, L.2.2.2.2.2.2.2.2.1, L.2.2.2.2.2.2.2.2.2) r y = m_L_isAhead L r y := fun y => rfl
    rw [l_L_putInOrder_5, if_neg hle, pq_dec', pq_dec, pq_n (by omega), pq_n (by omega), e0]
    by_cases h : pLt L r (f k)
    · rw [if_neg (fun e => ahead_0.mp e h)]
      obtain ⟨f', k', e, g⟩ := pa_put (L := L) (r := r) k n (upd f (k + 1) (f k)) (by omega) (by omega)
      exact ⟨f', k', e, pSh_s h g⟩
    · rw [if_pos (ahead_0.mpr h)]
      exact ⟨f, k + 1, rfl, pSh_0 (Or.inr (by rw [Nat.add_sub_cancel]; exact h))⟩
def pNew (L : cL) (c : Nat) (s nd t o p b : Int32) (f : cA) (mdv : Int32) : cL := (upd L.1 (c + 1) s, upd L.2.1 (c + 1) nd, upd L.2.2.1 (c + 1) t, upd L.2.2.2.1 (c + 1) o, upd L.2.2.2.2.1 (c + 1) p, upd L.2.2.2.2.2.1 (c + 1) b, if s = 4 then upd L.2.2.2.2.2.2.1 o.toNatClampNeg (pq (c + 1)) else L.2.2.2.2.2.2.1, f, pq (c + 1), mdv)
theorem pa_add {L : cL} {c : Nat} (hcn : L.2.2.2.2.2.2.2.2.1 = pq c) (hc : c < 300) (s nd t o p b : Int32) : ∃ (f' : cA) (k' : Nat), m_L_add L s nd t o p b = (pq (c + 1), pNew L c s nd t o p b (upd f' k' (pq (c + 1))) L.2.2.2.2.2.2.2.2.2) ∧ pSh (fun y => pLt (pNew L c s nd t o p b (zlOrd L) L.2.2.2.2.2.2.2.2.2) (pq (c + 1)) y) (zlOrd L) f' c k' := by
  have e1 : (pq (c + 1)).toNatClampNeg = c + 1 := pq_n (by omega)
  unfold m_L_add pNew
  rw [hcn, pq_inc, e1]
  by_cases h4 : s = 4
  · rw [if_pos h4, if_pos h4]
    obtain ⟨f', k', e, g⟩ := pa_put (L := (upd L.1 (c + 1) s, upd L.2.1 (c + 1) nd, upd L.2.2.1 (c + 1) t, upd L.2.2.2.1 (c + 1) o, upd L.2.2.2.2.1 (c + 1) p, upd L.2.2.2.2.2.1 (c + 1) b, upd L.2.2.2.2.2.2.1 o.toNatClampNeg (pq (c + 1)), zlOrd L, pq c, L.2.2.2.2.2.2.2.2.2)) (r := pq (c + 1)) c 301 (zlOrd L) (by omega) (by omega)
    refine ⟨f', k', ?_, g⟩
    unfold m_L_putInOrder
    rw [e]
  · rw [if_neg h4, if_neg h4]
    obtain ⟨f', k', e, g⟩ := pa_put (L := (upd L.1 (c + 1) s, upd L.2.1 (c + 1) nd, upd L.2.2.1 (c + 1) t, upd L.2.2.2.1 (c + 1) o, upd L.2.2.2.2.1 (c + 1) p, upd L.2.2.2.2.2.1 (c + 1) b, L.2.2.2.2.2.2.1, zlOrd L, pq c, L.2.2.2.2.2.2.2.2.2)) (r := pq (c + 1)) c 301 (zlOrd L) (by omega) (by omega)
    refine ⟨f', k', ?_, g⟩
    unfold m_L_putInOrder
    rw [e]
/-- what a new row must be -/
def pOK (L : cL) (c md : Nat) (s nd t o p : Int32) : Prop :=
  (0 ≤ s.toInt ∧ s.toInt ≤ 4) ∧ (¬ s = 4 → 1 ≤ o.toInt ∧ o.toInt ≤ md) ∧ (s = 1 → 0 ≤ p.toInt ∧ p.toInt ≤ md)
  ∧ (s = 4 → (1 ≤ o.toInt ∧ o.toInt ≤ c) ∧ ¬ zlS L o = 4 ∧ zlN L o = nd ∧ zlV L o = 0)
  ∧ (0 ≤ nd.toInt ∧ nd.toInt < 4) ∧ (1 ≤ t.toInt ∧ t.toInt ≤ c + 1) ∧ (∀ x ∈ rws c, zlN L x = nd → (zlT L x).toInt < t.toInt) ∧ (s = 0 → ∀ x ∈ rws c, zlS L x = 0 → zlO L x ≠ o)
theorem rws_s (c : Nat) : rws (c + 1) = rws c ++ [pq (c + 1)] := by
  unfold rws; rw [seg_e, Nat.add_comm 1 c]
theorem pNew_o {L : cL} {c : Nat} (hc : c < 300) {s nd t o p b : Int32} {f : cA} {m : Int32} {x : Int32} (h0 : 0 ≤ x.toInt) (h1 : x.toInt ≤ c) : zlS (pNew L c s nd t o p b f m) x = zlS L x ∧ zlN (pNew L c s nd t o p b f m) x = zlN L x ∧ zlT (pNew L c s nd t o p b f m) x = zlT L x ∧ zlO (pNew L c s nd t o p b f m) x = zlO L x ∧ zlP (pNew L c s nd t o p b f m) x = zlP L x ∧ zlB (pNew L c s nd t o p b f m) x = zlB L x := by
  have hi := pn_i h0
  have hne : x.toNatClampNeg ≠ c + 1 := by omega
  exact ⟨pk_un hne, pk_un hne, pk_un hne, pk_un hne, pk_un hne, pk_un hne⟩
theorem pNew_n {L : cL} {c : Nat} (hc : c < 300) {s nd t o p b : Int32} {f : cA} {m : Int32} : zlS (pNew L c s nd t o p b f m) (pq (c + 1)) = s ∧ zlN (pNew L c s nd t o p b f m) (pq (c + 1)) = nd ∧ zlT (pNew L c s nd t o p b f m) (pq (c + 1)) = t ∧ zlO (pNew L c s nd t o p b f m) (pq (c + 1)) = o ∧ zlP (pNew L c s nd t o p b f m) (pq (c + 1)) = p ∧ zlB (pNew L c s nd t o p b f m) (pq (c + 1)) = b := by
  have e1 : (pq (c + 1)).toNatClampNeg = c + 1 := pq_n (by omega)
  unfold zlS zlN zlT zlO zlP zlB pNew
  rw [e1]
  exact ⟨pk_us, pk_us, pk_us, pk_us, pk_us, pk_us⟩
theorem pNew_v {L : cL} {c : Nat} (hc : c < 300) {s nd t o p b : Int32} {f : cA} {m : Int32} {x : Int32} (h0 : 0 ≤ x.toInt) (ho : s = 4 → 0 ≤ o.toInt) (hx : ¬ (s = 4 ∧ x = o)) : zlV (pNew L c s nd t o p b f m) x = zlV L x := by
  unfold zlV pNew
  by_cases h4 : s = 4
  · show (if s = 4 then upd L.2.2.2.2.2.2.1 o.toNatClampNeg (pq (c + 1)) else L.2.2.2.2.2.2.1) x.toNatClampNeg = _
    rw [if_pos h4, pk_un (fun e => hx ⟨h4, pn_inj h0 (ho h4) e⟩)]
  · show (if s = 4 then upd L.2.2.2.2.2.2.1 o.toNatClampNeg (pq (c + 1)) else L.2.2.2.2.2.2.1) x.toNatClampNeg = _
    rw [if_neg h4]
theorem pLog_add {L : cL} {c md : Nat} (hL : pLog L c md) (hc : c < 300) {s nd t o p b : Int32} (hO : pOK L c md s nd t o p) : ∃ f' : cA, m_L_add L s nd t o p b = (pq (c + 1), pNew L c s nd t o p b f' (pq md)) ∧ pLog (pNew L c s nd t o p b f' (pq md)) (c + 1) md ∧ ∃ a e, seg (zlOrd L) 0 c = a ++ e ∧ seg f' 0 (c + 1) = a ++ pq (c + 1) :: e := by
  obtain ⟨f1, k', e, g⟩ := pa_add hL.2.1.1 hc s nd t o p b
  rw [hL.2.1.2] at e g
  obtain ⟨o1, o2, o3, o4, o5, o6, o7, o8⟩ := hO
  have hrc : (pq (c + 1)).toInt = c + 1 := by rw [pq_i (by omega)]; omega
  have hrn : (pq (c + 1)).toNatClampNeg = c + 1 := pq_n (by omega)
  obtain ⟨s1, s2, s3, s4⟩ := pSh_seg (r := pq (c + 1)) g
  refine ⟨upd f1 k' (pq (c + 1)), e, ?_, seg (zlOrd L) 0 k', seg (zlOrd L) k' (c - k'), s2, s1⟩
  obtain ⟨K, hK⟩ : ∃ K, K = pNew L c s nd t o p b (upd f1 k' (pq (c + 1))) (pq md) := ⟨_, rfl⟩
  have hold : ∀ x : Int32, 0 ≤ x.toInt → x.toInt ≤ c → zlS K x = zlS L x ∧ zlN K x = zlN L x ∧ zlT K x = zlT L x ∧ zlO K x = zlO L x ∧ zlP K x = zlP L x ∧ zlB K x = zlB L x := fun x h0 h1 => by
    rw [hK]; exact pNew_o hc h0 h1
  have hnew : zlS K (pq (c + 1)) = s ∧ zlN K (pq (c + 1)) = nd ∧ zlT K (pq (c + 1)) = t ∧ zlO K (pq (c + 1)) = o ∧ zlP K (pq (c + 1)) = p ∧ zlB K (pq (c + 1)) = b := by rw [hK]; exact pNew_n hc
  have ho0 : s = 4 → 0 ≤ o.toInt := fun h => by have := (o4 h).1; omega
  have hv : ∀ x : Int32, 0 ≤ x.toInt → ¬ (s = 4 ∧ x = o) → zlV K x = zlV L x := fun x h0 hx => by
    rw [hK]; exact pNew_v hc h0 ho0 hx
  have hvo : s = 4 → zlV K o = pq (c + 1) := fun h4 => by
    rw [hK]
    show (if s = 4 then upd L.2.2.2.2.2.2.1 o.toNatClampNeg (pq (c + 1)) else L.2.2.2.2.2.2.1) o.toNatClampNeg = _
    rw [if_pos h4, pk_us]
  have hlt : ∀ x y, x ∈ rws c → y ∈ rws c → (pLt K x y ↔ pLt L x y) := fun x y hx hy => by
    have hx1 := (rws_m (by omega)).mp hx
    have hy1 := (rws_m (by omega)).mp hy
    obtain ⟨-, x2, x3, -⟩ := hold x (by omega) (by omega)
    obtain ⟨-, y2, y3, -⟩ := hold y (by omega) (by omega)
    unfold pLt
    rw [x2, x3, y2, y3]
  have hltN : ∀ y, pLt (pNew L c s nd t o p b (zlOrd L) (pq md)) (pq (c + 1)) y ↔ pLt K (pq (c + 1)) y := fun y => by rw [hK]; exact Iff.rfl
  have htot : ∀ y ∈ rws c, ¬ pLt K (pq (c + 1)) y → pLt K y (pq (c + 1)) := fun y hy h => by
    have hy1 := (rws_m (by omega)).mp hy
    obtain ⟨-, y2, y3, -⟩ := hold y (by omega) (by omega)
    obtain ⟨-, n2, n3, -⟩ := hnew
    unfold pLt at h ⊢
    rw [y2, y3, n2, n3] at h ⊢
    by_cases hn : zlN L y = nd
    · have := o7 y hy hn; omega
    · have : (zlN L y).toInt ≠ nd.toInt := fun e => hn (pi_ext e)
      omega
  rw [← hK]
  have hordK : zlOrd K = upd f1 k' (pq (c + 1)) := by rw [hK]; rfl
  have hmemO : ∀ x, x ∈ seg (zlOrd L) 0 c → x ∈ rws c := fun x hx => hL.2.2.2.1.mem_iff.mp hx
  refine ⟨⟨by omega, hL.1.2⟩, ⟨by rw [hK]; rfl, by rw [hK]; rfl⟩, ?_, ?_, ?_, ?_, ?_, ?_⟩
  · intro j hj
    rw [hordK]
    by_cases ej : j = k'
    · rw [ej, pk_us, hrc]; omega
    · rw [pk_un ej]
      obtain ⟨g1, g2, g3, g4, g5⟩ := g
      by_cases a1 : j < k'
      · rw [g2 j a1]; exact hL.2.2.1 j hj
      · by_cases a2 : c < j
        · rw [g4 j a2]; exact hL.2.2.1 j hj
        · obtain ⟨i, rfl⟩ : ∃ i, j = i + 1 := ⟨j - 1, by omega⟩
          rw [(g3 i (by omega) (by omega)).1]
          exact hL.2.2.1 i (by omega)
  · rw [hordK, s1, rws_s]
    refine (List.perm_middle).trans ?_
    refine List.Perm.trans ?_ (List.perm_append_comm (l₁ := [pq (c + 1)]))
    show (pq (c + 1) :: (seg (zlOrd L) 0 k' ++ seg (zlOrd L) k' (c - k'))).Perm (pq (c + 1) :: rws c)
    refine List.Perm.cons _ ?_
    rw [← s2]; exact hL.2.2.2.1
  · rw [hordK, s1]
    refine pw_ins ?_ (fun x hx => (hltN x).mp (s3 x hx)) ?_
    · rw [← s2]
      exact List.Pairwise.imp_of_mem (fun hx hy h => (hlt _ _ (hmemO _ hx) (hmemO _ hy)).mpr h) hL.2.2.2.2.1
    · rcases s4 with h | ⟨a', y, h1, h2⟩
      · exact Or.inl h
      · refine Or.inr ⟨a', y, h1, htot y (hmemO y ?_) (fun h => h2 ((hltN y).mpr h))⟩
        rw [s2, h1]; simp
  · intro x hx
    rw [rws_s] at hx
    rcases List.mem_append.mp hx with hx | hx
    · have hx1 := (rws_m (by omega)).mp hx
      obtain ⟨x1, x2, x3, x4, x5, x6⟩ := hold x (by omega) (by omega)
      obtain ⟨r1, r2, r3, r4, r5, r6, r7⟩ := pLog_r hL hx1
      unfold pRow
      rw [x1, x2, x3, x4, x5]
      refine ⟨r1, r2, r3, fun h4 => ?_, r5, by omega, ?_⟩
      · obtain ⟨q1, q2, q3, q4⟩ := r4 h4
        obtain ⟨y1, y2, -⟩ := hold (zlO L x) (by omega) (by omega)
        rw [y1, y2]
        refine ⟨by omega, q2, q3, ?_⟩
        rw [hv _ (by omega), q4]
        rintro ⟨h5, h6⟩
        have := (o4 h5).2.2.2
        rw [← h6, q4] at this
        rw [this, ti_0] at hx1; omega
      · by_cases hxo : s = 4 ∧ x = o
        · rw [hxo.2, hvo hxo.1]
          refine Or.inr ⟨by omega, ?_, ?_⟩
          · rw [hnew.1]; exact hxo.1
          · rw [hnew.2.2.2.1]
        · rw [hv x (by omega) hxo]
          rcases r7 with h | ⟨h1, h2, h3⟩
          · exact Or.inl h
          · obtain ⟨y1, -, -, y4, -⟩ := hold (zlV L x) (by omega) (by omega)
            refine Or.inr ⟨by omega, ?_, ?_⟩
            · rw [y1]; exact h2
            · rw [y4]; exact h3
    · rw [List.mem_singleton.mp hx]
      obtain ⟨n1, n2, n3, n4, n5, n6⟩ := hnew
      unfold pRow
      rw [n1, n2, n3, n4, n5]
      refine ⟨o1, o2, o3, fun h4 => ?_, o5, by omega, ?_⟩
      · obtain ⟨q1, q2, q3, q4⟩ := o4 h4
        obtain ⟨y1, y2, -⟩ := hold o (by omega) (by omega)
        rw [y1, y2]
        exact ⟨by omega, q2, q3, hvo h4⟩
      · refine Or.inl ?_
        rw [hv _ (by omega)]
        · show L.2.2.2.2.2.2.1 (pq (c + 1)).toNatClampNeg = 0
          rw [hrn]; exact hL.2.2.2.2.2.2.2 (c + 1) (by omega) (by omega)
        · rintro ⟨h5, h6⟩
          have := (o4 h5).1
          rw [← h6, hrc] at this
          omega
  · have old : ∀ x ∈ rws c, zlS K x = zlS L x ∧ zlO K x = zlO L x := fun x hx => by
      have hx1 := (rws_m (by omega)).mp hx
      obtain ⟨x1, x2, x3, x4, x5, x6⟩ := hold x (by omega) (by omega)
      exact ⟨x1, x4⟩
    intro x hx y hy hsx hsy hoxy
    rw [rws_s] at hx hy
    rcases List.mem_append.mp hx with hx | hx
    · obtain ⟨x1, x4⟩ := old x hx
      rw [x1] at hsx
      rcases List.mem_append.mp hy with hy | hy
      · obtain ⟨y1, y4⟩ := old y hy
        rw [y1] at hsy; rw [x4, y4] at hoxy
        exact hL.2.2.2.2.2.2.1 x hx y hy hsx hsy hoxy
      · rw [List.mem_singleton.mp hy] at hsy hoxy
        rw [hnew.1] at hsy; rw [x4, hnew.2.2.2.1] at hoxy
        exact absurd hoxy (o8 hsy x hx hsx)
    · rw [List.mem_singleton.mp hx] at hsx hoxy ⊢
      rw [hnew.1] at hsx; rw [hnew.2.2.2.1] at hoxy
      rcases List.mem_append.mp hy with hy | hy
      · obtain ⟨y1, y4⟩ := old y hy
        rw [y1] at hsy; rw [y4] at hoxy
        exact absurd hoxy.symm (o8 hsx y hy hsy)
      · exact (List.mem_singleton.mp hy).symm
  · intro j h1 h2
    have : (pq j).toNatClampNeg = j := pq_n (by omega)
    have hji : (pq j).toInt = j := pq_i (by omega)
    have := hv (pq j) (by omega) (by
      rintro ⟨h5, h6⟩
      have := (o4 h5).1
      rw [← h6, hji] at this
      omega)
    unfold zlV at this
    rw [pq_n (by omega)] at this
    rw [this]
    exact hL.2.2.2.2.2.2.2 j (by omega) h2
theorem pLog_md {L : cL} {c md : Nat} (hL : pLog L c md) (h : md < 39) : pLog (L.1, L.2.1, L.2.2.1, L.2.2.2.1, L.2.2.2.2.1, L.2.2.2.2.2.1, L.2.2.2.2.2.2.1, L.2.2.2.2.2.2.2.1, L.2.2.2.2.2.2.2.2.1, pq (md + 1)) c (md + 1) := by
  refine ⟨⟨hL.1.1, by omega⟩, ⟨hL.2.1.1, rfl⟩, hL.2.2.1, hL.2.2.2.1, hL.2.2.2.2.1, fun x hx => ?_, hL.2.2.2.2.2.2.1, hL.2.2.2.2.2.2.2⟩
  obtain ⟨r1, r2, r3, r4, r5, r6, r7⟩ := hL.2.2.2.2.2.1 x hx
  exact ⟨r1, fun h => by have := r2 h; exact ⟨this.1, by have := this.2; show (zlO L x).toInt ≤ _; omega⟩, fun h => by have := r3 h; exact ⟨this.1, by have := this.2; show (zlP L x).toInt ≤ _; omega⟩, r4, r5, r6, r7⟩
