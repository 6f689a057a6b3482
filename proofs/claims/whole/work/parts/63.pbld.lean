/-! the reference builds its tree -/
def pBt (M : cM) (L : cL) (c : Nat) (f : cA) : Prop := rU M.2.2.1 (pRes L c f).1 ∧ ∀ x ∈ rws c, M.2.2.2.1.2.1 x.toNatClampNeg = (pRes L c f).2 x
theorem build_eq (M : cM) (x1 : Int32) : m_M_build M x1 = if M.2.2.2.1.1 = x1 then M else l_M_build_108 M x1 301 0 (b_M1 M x1).2.2.1 (m_M_findOrder (b_M1 M x1) x1).1 (m_M_findOrder (b_M1 M x1) x1).2.1 (m_M_findOrder (b_M1 M x1) x1).2.2.1 (m_M_findOrder (b_M1 M x1) x1).2.2.2 := rfl
theorem pb_16 {M : cM} {x1 : Int32} : ∀ (m i n : Nat) (ft fp fl : cA), i + m = 40 → m < n → (∀ j, j < i → ft j = (if j = 0 then 1 else 0) ∧ fp j = -1 ∧ fl j = -1) → ∀ j, j < 40 → (l_M_build_16 M x1 n (pq i) ft fp fl).2.1 j = (if j = 0 then 1 else 0) ∧ (l_M_build_16 M x1 n (pq i) ft fp fl).2.2.1 j = -1 ∧ (l_M_build_16 M x1 n (pq i) ft fp fl).2.2.2 j = -1
  | m, i, 0, ft, fp, fl, _, h, _ => by omega
  | 0, i, n + 1, ft, fp, fl, h1, h2, h => fun j hj => by
    rw [l_M_build_16, ← pq_40, if_pos ((pq_le (by omega) (by omega)).mpr (by omega))]
    exact h j (by omega)
  | m + 1, i, n + 1, ft, fp, fl, h1, h2, h => fun j hj => by
    rw [l_M_build_16, ← pq_40, if_neg (fun h => by have := (pq_le (by omega) (by omega)).mp h; omega), pq_inc, pq_n (by omega)]
    by_cases e : pq i = 0
    · have ei : i = 0 := (pq_inj (b := 0) (by omega) (by omega)).mp e
      rw [if_pos e]
      refine pb_16 m (i + 1) n _ _ _ (by omega) (by omega) (fun q hq => ?_) j hj
      by_cases eq : q = i
      · rw [eq, pk_us, pk_us, pk_us, if_pos ei]; exact ⟨rfl, rfl, rfl⟩
      · rw [pk_un eq, pk_un eq, pk_un eq]; exact h q (by omega)
    · have ei : i ≠ 0 := fun h => e (by rw [h]; rfl)
      rw [if_neg e]
      refine pb_16 m (i + 1) n _ _ _ (by omega) (by omega) (fun q hq => ?_) j hj
      by_cases eq : q = i
      · rw [eq, pk_us, pk_us, pk_us, if_neg ei]; exact ⟨rfl, rfl, rfl⟩
      · rw [pk_un eq, pk_un eq, pk_un eq]; exact h q (by omega)
theorem pb_59 {M : cM} {x1 : Int32} {ft fp fl : cA} : ∀ (m i n : Nat) (fk : cA), i + m = 41 → m < n → (∀ j, j < i → fk j = 0) → ∀ j, j < 41 → (l_M_build_59 M x1 ft fp fl n (pq i) fk).2 j = 0
  | m, i, 0, fk, _, h, _ => by omega
  | 0, i, n + 1, fk, h1, h2, h => fun j hj => by
    rw [l_M_build_59, ← pq_40, if_pos ((pq_lt (by omega) (by omega)).mpr (by omega))]
    exact h j (by omega)
  | m + 1, i, n + 1, fk, h1, h2, h => fun j hj => by
    rw [l_M_build_59, ← pq_40, if_neg (fun h => by have := (pq_lt (by omega) (by omega)).mp h; omega), pq_inc, pq_n (by omega)]
    refine pb_59 m (i + 1) n _ (by omega) (by omega) (fun q hq => ?_) j hj
    by_cases eq : q = i
    · rw [eq, pk_us]
    · rw [pk_un eq]; exact h q (by omega)
theorem pb_80 {M : cM} {x1 : Int32} {ft fp fl fk : cA} {c : Nat} (hc : c ≤ 300) (hM : M.1.1 = pq c) : ∀ (m i n : Nat) (fh : cA), 1 ≤ i → i + m = c + 1 → m < n → (∀ j, 1 ≤ j → j < i → fh j = 0) → ∀ j, 1 ≤ j → j ≤ c → (l_M_build_80 M x1 ft fp fl fk n (pq i) fh).2 j = 0
  | m, i, 0, fh, _, _, h, _ => by omega
  | 0, i, n + 1, fh, h0, h1, h2, h => fun j h3 hj => by
    rw [l_M_build_80, hM, if_pos ((pq_lt (by omega) (by omega)).mpr (by omega))]
    exact h j h3 (by omega)
  | m + 1, i, n + 1, fh, h0, h1, h2, h => fun j h3 hj => by
    rw [l_M_build_80, hM, if_neg (fun h => by have := (pq_lt (by omega) (by omega)).mp h; omega), pq_inc, pq_n (by omega)]
    refine pb_80 hc hM m (i + 1) n _ (by omega) (by omega) (by omega) (fun q hq1 hq => ?_) j h3 hj
    by_cases eq : q = i
    · rw [eq, pk_us]
    · rw [pk_un eq]; exact h q hq1 (by omega)
theorem pb_U0 (M : cM) (x1 : Int32) : rU (b_M1 M x1).2.2.1 pA0 := by
  have h16 := pb_16 (M := M) (x1 := x1) 40 0 41 M.2.2.1.1 M.2.2.1.2.1 M.2.2.1.2.2.1 (by omega) (by omega) (fun j hj => by omega)
  have h59 := pb_59 (M := M) (x1 := x1) (ft := (l_M_build_16 M x1 41 0 M.2.2.1.1 M.2.2.1.2.1 M.2.2.1.2.2.1).2.1) (fp := (l_M_build_16 M x1 41 0 M.2.2.1.1 M.2.2.1.2.1 M.2.2.1.2.2.1).2.2.1) (fl := (l_M_build_16 M x1 41 0 M.2.2.1.1 M.2.2.1.2.1 M.2.2.1.2.2.1).2.2.2) 41 0 42 M.2.2.1.2.2.2.1 (by omega) (by omega) (fun j hj => by omega)
  refine ⟨fun j hj => ?_, fun x h0 h1 => ?_, fun x hx => (List.not_mem_nil hx).elim, fun x hx => ?_, fun p hp => ⟨h59 p hp, rfl⟩⟩
  · have := (h16 j hj).1
    by_cases e : j = 0
    · rw [if_pos e] at this; exact Or.inr this
    · rw [if_neg e] at this; exact Or.inl this
  · have hn := ti_ix (n := 40) h0 h1
    have := (h16 x.toNatClampNeg hn).1
    show (l_M_build_16 M x1 41 (pq 0) M.2.2.1.1 M.2.2.1.2.1 M.2.2.1.2.2.1).2.1 x.toNatClampNeg = 1 ↔ _
    rw [this]
    by_cases e : x = 0
    · rw [if_pos (by rw [e]; rfl)]; exact ⟨fun _ => Or.inl e, fun _ => rfl⟩
    · rw [if_neg (fun e2 => e (pn_inj h0 (by rw [ti_0]; omega) (by rw [e2]; rfl)))]
      refine ⟨fun h => absurd h (by decide), fun h => ?_⟩
      rcases h with h | h
      · exact absurd h e
      · exact (List.not_mem_nil h).elim
  · rcases hx with rfl | h
    · exact (h16 0 (by omega)).2.2
    · exact (List.not_mem_nil h).elim
theorem pb_h0 {M : cM} {x1 : Int32} {c : Nat} (hc : c ≤ 300) (hM : M.1.1 = pq c) : ∀ x ∈ rws c, (b_M1 M x1).2.2.2.1.2.1 x.toNatClampNeg = 0 := fun x hx => by
  have hx1 := (rws_m hc).mp hx
  have := pn_i (x := x) (by omega)
  exact pb_80 (M := M) hc hM c 1 302 M.2.2.2.1.2.1 (by omega) (by omega) (by omega) (fun j h1 h2 => by omega) x.toNatClampNeg (by omega) (by omega)
/-- one row of the reference -/
theorem pb_row {M : cM} {L : cL} {c md : Nat} (hL : pLog L c md) (hR : rR M.1 L c md) {n : Int32} {f : cA} (hN : rN M.2.1.1 n f) (hf : pKn c f) {V : cU} {H : cH} {A : pT} {done : List Int32} {x : Int32} (hx : x ∈ rws c) (hxd : x ∉ done) (hdn : ∀ z ∈ done, z ∈ rws c) (hG : pG L done A) (hV : rU V A) :
    (zlS L x = 4 ∧ pHow L (pu L f) A x = (1, A)) ∨ (¬ zlS L x = 4 ∧ m_M_isUndone (M.1, M.2.1, V, H, M.2.2.2.2) n x = 1 ∧ pHow L (pu L f) A x = (3, A)) ∨ (¬ zlS L x = 4 ∧ m_M_isUndone (M.1, M.2.1, V, H, M.2.2.2.2) n x = 0 ∧ (pHow L (pu L f) A x).1 = (if (m_M_doRow (M.1, M.2.1, V, H, M.2.2.2.2) x).1 = 0 then 2 else 1) ∧ rU (m_M_doRow (M.1, M.2.1, V, H, M.2.2.2.2) x).2 (pHow L (pu L f) A x).2) := by
  have hc := hL.1.1
  have hmd := hL.1.2
  obtain ⟨x1, x2, x3, x4, x5, x6⟩ := hR.2.2 _ hx
  have hRow := hL.2.2.2.2.2.1 x hx
  by_cases h4 : zlS L x = 4
  · refine Or.inl ⟨h4, ?_⟩
    unfold pHow; rw [if_pos h4]
  · refine Or.inr ?_
    rcases pv_un' (M := (M.1, M.2.1, V, H, M.2.2.2.2)) hL hR hN hf hx with ⟨hu, e⟩ | ⟨hu, e⟩
    · refine Or.inl ⟨h4, e, ?_⟩
      unfold pHow; rw [if_neg h4, pIf_t hu]
    · refine Or.inr ⟨h4, e, ?_⟩
      have ho := hRow.2.1 h4
      have := pm_row (M := (M.1, M.2.1, V, H, M.2.2.2.2)) (ob := md + 1) hG.1 hV hR.2.1 (by omega) (by omega) (fun y hy => by
        obtain ⟨z, hz, g1, g2⟩ := hG.2 y hy
        have hz2 := (hL.2.2.2.2.2.1 z (hdn z hz)).2.1 (by rw [g1]; decide)
        rw [g2] at hz2
        have := pn_i (x := y) (by omega)
        omega) x1 x4 x5 x6 (by omega) (fun h0 => pG_new hL hG hdn hx hxd h0) (fun h1 => by have := hRow.2.2.1 h1; omega)
      unfold pHow
      rw [if_neg h4, pIf_f hu]
      refine ⟨?_, this.2⟩
      show (if (pStep A (zlS L x) (zlO L x) (zlP L x) (zlB L x)).1 = 0 then (2 : Int32) else 1) = _
      rw [← this.1]
theorem pb_108 {M : cM} {L : cL} {c md : Nat} (hL : pLog L c md) (hR : rR M.1 L c md) {n : Int32} {f : cA} (hN : rN M.2.1.1 n f) (hf : pKn c f) {g : cA} {K : Nat} (hK : K ≤ 300) (hg : seg g 0 K = (seg (zlOrd L) 0 c).filter (kb f)) : ∀ (m i j : Nat) (V : cU) (bf : Int32) (fh : cA) (A : pT) (h : Int32 → Int32), i + m = K → m < j → pG L (seg g 0 i) A → rU V A → (∀ x ∈ rws c, x ∉ seg g i m → fh x.toNatClampNeg = h x) →
    ∃ (V' : cU) (fh' : cA), l_M_build_108 M n j (pq i) V bf fh (pq K) g = (M.1, M.2.1, V', (bf, fh', pq K, g), M.2.2.2.2) ∧ rU V' (pRep L (pu L f) (seg g i m) (A, h)).1 ∧ ∀ x ∈ rws c, fh' x.toNatClampNeg = (pRep L (pu L f) (seg g i m) (A, h)).2 x
  | m, i, 0, V, bf, fh, A, h, _, hh, _, _, _ => by omega
  | 0, i, j + 1, V, bf, fh, A, h, h1, h2, hG, hV, hh => by
    refine ⟨V, fh, ?_, hV, fun x hx => hh x hx List.not_mem_nil⟩
    rw [l_M_build_108, if_pos ((pq_le (by omega) (by omega)).mpr (by omega))]
  | m + 1, i, j + 1, V, bf, fh, A, h, h1, h2, hG, hV, hh => by
    have hc := hL.1.1
    have hsub : ∀ x, x ∈ seg g 0 K → x ∈ rws c := fun x hx => by
      rw [hg] at hx
      exact hL.2.2.2.1.mem_iff.mp (List.mem_filter.mp hx).1
    have hnd : (seg g 0 K).Nodup := by rw [hg]; exact (pLog_d hL).filter _
    have hsplit : seg g 0 K = seg g 0 i ++ g i :: seg g (i + 1) m := by rw [← h1, seg_app, Nat.zero_add, seg_s]
    have hx : g i ∈ rws c := hsub _ (by rw [hsplit]; simp)
    have hdn : ∀ z ∈ seg g 0 i, z ∈ rws c := fun z hz => hsub _ (by rw [hsplit]; exact List.mem_append_left _ hz)
    rw [hsplit, List.nodup_append] at hnd
    have hxd : g i ∉ seg g 0 i := fun hz => hnd.2.2 _ hz _ List.mem_cons_self rfl
    have hxl : g i ∉ seg g (i + 1) m := (List.nodup_cons.mp hnd.2.1).1
    have hx1 := (rws_m hc).mp hx
    obtain ⟨x1, x2, x3, x4, x5, x6⟩ := hR.2.2 _ hx
    have eseg : seg g 0 (i + 1) = seg g 0 i ++ [g i] := by rw [seg_e, Nat.zero_add]
    have hG' := pG_step hL (u := pu L f) hG hdn hx hxd
    rw [← eseg] at hG'
    have hrow := pb_row hL hR hN hf (H := (bf, fh, pq K, g)) hx hxd hdn hG hV
    have next : ∀ (V' : cU) (v : Int32), v = (pHow L (pu L f) A (g i)).1 → rU V' (pHow L (pu L f) A (g i)).2 → ∃ (V'' : cU) (fh' : cA), l_M_build_108 M n j (pq (i + 1)) V' bf (upd fh (g i).toNatClampNeg v) (pq K) g = (M.1, M.2.1, V'', (bf, fh', pq K, g), M.2.2.2.2) ∧ rU V'' (pRep L (pu L f) (g i :: seg g (i + 1) m) (A, h)).1 ∧ ∀ x ∈ rws c, fh' x.toNatClampNeg = (pRep L (pu L f) (g i :: seg g (i + 1) m) (A, h)).2 x := by
      intro V' v hv hV'
      refine pb_108 hL hR hN hf hK hg m (i + 1) j V' bf _ (pHow L (pu L f) A (g i)).2 (pU h (g i) (pHow L (pu L f) A (g i)).1) (by omega) (by omega) hG' hV' (fun y hy hyn => ?_)
      have hy1 := (rws_m hc).mp hy
      rw [hv]
      refine pt_upd (by omega) (by omega) (fun hne => hh y hy (fun hm => ?_))
      rw [seg_s] at hm
      rcases List.mem_cons.mp hm with e | e
      · exact hne e
      · exact hyn e
    rw [l_M_build_108, if_neg (fun h => by have := (pq_le (by omega) (by omega)).mp h; omega), pq_inc, pq_n (by omega), x1, seg_s]
    rcases hrow with ⟨h4, e⟩ | ⟨h4, hu, e⟩ | ⟨h4, hu, e1, e2⟩
    · rw [if_pos h4]
      exact next V 1 (by rw [e]) (by rw [e]; exact hV)
    · rw [if_neg h4, hu, if_neg (by decide)]
      exact next V 3 (by rw [e]) (by rw [e]; exact hV)
    · rw [if_neg h4, hu, if_pos rfl]
      by_cases ed : (m_M_doRow (M.1, M.2.1, V, (bf, fh, pq K, g), M.2.2.2.2) (g i)).1 = 0
      · rw [if_pos ed]
        rw [if_pos ed] at e1
        exact next _ 2 e1.symm e2
      · rw [if_neg ed]
        rw [if_neg ed] at e1
        exact next _ 1 e1.symm e2
/-- what build gives -/
theorem pb_build {M : cM} {L : cL} {c md : Nat} (hL : pLog L c md) (hR : rR M.1 L c md) {n : Int32} {f : cA} (hN : rN M.2.1.1 n f) (hf : pKn c f) (hB : M.2.2.2.1.1 = n → pBt M L c f) : pBt (m_M_build M n) L c f ∧ (m_M_build M n).1 = M.1 ∧ (m_M_build M n).2.1 = M.2.1 ∧ (m_M_build M n).2.2.2.2 = M.2.2.2.2 ∧ (m_M_build M n).2.2.2.1.1 = n ∧ ((∀ j, j < 301 → 0 ≤ (M.2.2.2.1.2.2.2 j).toInt ∧ (M.2.2.2.1.2.2.2 j).toInt < 301) → ∀ j, j < 301 → 0 ≤ ((m_M_build M n).2.2.2.1.2.2.2 j).toInt ∧ ((m_M_build M n).2.2.2.1.2.2.2 j).toInt < 301) := by
  have hc := hL.1.1
  rw [build_eq]
  by_cases hb : M.2.2.2.1.1 = n
  · rw [if_pos hb]; exact ⟨hB hb, rfl, rfl, rfl, hb, fun h => h⟩
  · rw [if_neg hb]
    have hrg := fun h => fo_rg' (M := b_M1 M n) (x1 := n) (by show M.1.1.toInt ≤ 300; rw [hR.1, pq_i (by omega)]; omega) h
    obtain ⟨g, e, hK, hg⟩ := pv_fo' (M := b_M1 M n) hL hR hN
    rw [e] at hrg ⊢
    obtain ⟨V', fh', e2, e3, e4⟩ := pb_108 hL hR hN hf hK hg _ 0 301 (b_M1 M n).2.2.1 (b_M1 M n).2.2.2.1.1 (b_M1 M n).2.2.2.1.2.1 pA0 (fun _ => 0) (Nat.zero_add _) (by omega) ⟨pW_0, fun y hy => (List.not_mem_nil hy).elim⟩ (pb_U0 M n) (fun x hx _ => pb_h0 hc hR.1 x hx)
    have e2' : l_M_build_108 M n 301 0 (b_M1 M n).2.2.1 (b_M1 M n).2.2.2.1.1 (b_M1 M n).2.2.2.1.2.1 (pq ((seg (zlOrd L) 0 c).filter (kb f)).length) g = _ := e2
    show pBt (l_M_build_108 M n 301 0 (b_M1 M n).2.2.1 (b_M1 M n).2.2.2.1.1 (b_M1 M n).2.2.2.1.2.1 (pq ((seg (zlOrd L) 0 c).filter (kb f)).length) g) L c f ∧ (l_M_build_108 M n 301 0 (b_M1 M n).2.2.1 (b_M1 M n).2.2.2.1.1 (b_M1 M n).2.2.2.1.2.1 (pq ((seg (zlOrd L) 0 c).filter (kb f)).length) g).1 = M.1 ∧ (l_M_build_108 M n 301 0 (b_M1 M n).2.2.1 (b_M1 M n).2.2.2.1.1 (b_M1 M n).2.2.2.1.2.1 (pq ((seg (zlOrd L) 0 c).filter (kb f)).length) g).2.1 = M.2.1 ∧ (l_M_build_108 M n 301 0 (b_M1 M n).2.2.1 (b_M1 M n).2.2.2.1.1 (b_M1 M n).2.2.2.1.2.1 (pq ((seg (zlOrd L) 0 c).filter (kb f)).length) g).2.2.2.2 = M.2.2.2.2 ∧ (l_M_build_108 M n 301 0 (b_M1 M n).2.2.1 (b_M1 M n).2.2.2.1.1 (b_M1 M n).2.2.2.1.2.1 (pq ((seg (zlOrd L) 0 c).filter (kb f)).length) g).2.2.2.1.1 = n ∧ _
    rw [e2']
    rw [hg] at e3 e4
    exact ⟨⟨e3, e4⟩, rfl, rfl, rfl, rfl, fun h => (hrg h).2⟩
theorem pb_ok {M : cM} {L : cL} {c md : Nat} (hL : pLog L c md) (hR : rR M.1 L c md) {n : Int32} {f : cA} (hN : rN M.2.1.1 n f) (hf : pKn c f) (hB : M.2.2.2.1.1 = n → pBt M L c f) (h01 : ∀ j, j < 1204 → M.2.1.1 j = 0 ∨ M.2.1.1 j = 1) (hor : ∀ j, j < 301 → 0 ≤ (M.2.2.2.1.2.2.2 j).toInt ∧ (M.2.2.2.1.2.2.2 j).toInt < 301) : okBuild M n := by
  have hc := hL.1.1
  have hmd := hL.1.2
  refine ⟨by rw [hR.1, pq_i (by omega)]; omega, by rw [hR.2.1, pq_i (by omega)]; omega, h01, hor, ?_, pm_ok (pRes_G hL f).1 (pb_build hL hR hN hf hB).1.1⟩
  obtain ⟨g, e, hK, hg⟩ := pv_fo' (M := b_M1 M n) hL hR hN
  refine ⟨fun x V => ∃ (i : Nat) (A : pT), x = pq i ∧ i ≤ ((seg (zlOrd L) 0 c).filter (kb f)).length ∧ pG L (seg g 0 i) A ∧ rU V A, fun hb => ⟨⟨0, pA0, rfl, by omega, ⟨pW_0, fun y hy => (List.not_mem_nil hy).elim⟩, pb_U0 M n⟩, ?_⟩⟩
  rw [e]
  intro o f1 ho hf1
  have ho2 : pq ((seg (zlOrd L) 0 c).filter (kb f)).length = o := ho.symm
  have hf2 : g = f1 := hf1.symm
  subst ho2
  subst hf2
  rintro x V b h h0 h1 ⟨i, A, rfl, hi, hG, hV⟩
  have h1' : i < ((seg (zlOrd L) 0 c).filter (kb f)).length := by
    have h1'' : (pq i).toInt < (pq ((seg (zlOrd L) 0 c).filter (kb f)).length).toInt := h1
    rw [pq_i (by omega), pq_i (by omega)] at h1''
    omega
  show okRM M (g (pq i).toNatClampNeg) ∧ okU V ∧ (M.1.2.2.1 (g (pq i).toNatClampNeg).toNatClampNeg = 4 → _) ∧ (¬ m_M_isUndone (M.1, M.2.1, V, (b, h, _, g), M.2.2.2.2) n (g (pq i).toNatClampNeg) = 0 → _) ∧ (m_M_isUndone (M.1, M.2.1, V, (b, h, _, g), M.2.2.2.2) n (g (pq i).toNatClampNeg) = 0 → ¬ M.1.2.2.1 (g (pq i).toNatClampNeg).toNatClampNeg = 4 → _)
  rw [pq_n (by omega)]
  obtain ⟨m, hm⟩ : ∃ m, ((seg (zlOrd L) 0 c).filter (kb f)).length = i + (m + 1) := ⟨((seg (zlOrd L) 0 c).filter (kb f)).length - i - 1, by omega⟩
  have hsub : ∀ x, x ∈ seg g 0 ((seg (zlOrd L) 0 c).filter (kb f)).length → x ∈ rws c := fun x hx => by
    rw [hg] at hx
    exact hL.2.2.2.1.mem_iff.mp (List.mem_filter.mp hx).1
  have hnd : (seg g 0 ((seg (zlOrd L) 0 c).filter (kb f)).length).Nodup := by rw [hg]; exact (pLog_d hL).filter _
  have hsplit : seg g 0 ((seg (zlOrd L) 0 c).filter (kb f)).length = seg g 0 i ++ g i :: seg g (i + 1) m := by rw [hm, seg_app, Nat.zero_add, seg_s]
  have hx : g i ∈ rws c := hsub _ (by rw [hsplit]; simp)
  have hdn : ∀ z ∈ seg g 0 i, z ∈ rws c := fun z hz => hsub _ (by rw [hsplit]; exact List.mem_append_left _ hz)
  rw [hsplit, List.nodup_append] at hnd
  have hxd : g i ∉ seg g 0 i := fun hz => hnd.2.2 _ hz _ List.mem_cons_self rfl
  have hx1 := (rws_m hc).mp hx
  obtain ⟨x1, x2, x3, x4, x5, x6⟩ := hR.2.2 _ hx
  have hRow := hL.2.2.2.2.2.1 _ hx
  have eseg : seg g 0 (i + 1) = seg g 0 i ++ [g i] := by rw [seg_e, Nat.zero_add]
  have keep : pG L (seg g 0 (i + 1)) A := by
    rw [eseg]
    exact ⟨hG.1, fun y hy => by
      obtain ⟨z, hz, h⟩ := hG.2 y hy
      exact ⟨z, List.mem_append_left _ hz, h⟩⟩
  have hG' := pG_step hL (u := pu L f) hG hdn hx hxd
  rw [← eseg] at hG'
  have hrow := pb_row hL hR hN hf (H := (b, h, pq ((seg (zlOrd L) 0 c).filter (kb f)).length, g)) hx hxd hdn hG hV
  rw [pq_inc]
  refine ⟨⟨by omega, fun h => ?_, fun h => ?_⟩, pm_ok hG.1 hV, fun h4 => ⟨i + 1, A, rfl, by omega, keep, hV⟩, fun hu => ⟨i + 1, A, rfl, by omega, keep, hV⟩, fun hu h4 => ?_⟩
  · rw [x1] at h
    have := hRow.2.1 h
    rw [x4]; omega
  · rw [x1] at h
    have := hRow.2.2.1 h
    rw [x5]; omega
  · rcases hrow with ⟨g4, _⟩ | ⟨g4, gu, _⟩ | ⟨g4, gu, e1, e2⟩
    · rw [x1] at h4; exact absurd g4 h4
    · exact absurd (hu.symm.trans gu) (by decide)
    · exact ⟨i + 1, _, rfl, by omega, hG', e2⟩
