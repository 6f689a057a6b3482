/-! rows, their order, and what comes of them -/
abbrev zlS (L : cL) (x : Int32) : Int32 := L.1 x.toNatClampNeg
abbrev zlN (L : cL) (x : Int32) : Int32 := L.2.1 x.toNatClampNeg
abbrev zlT (L : cL) (x : Int32) : Int32 := L.2.2.1 x.toNatClampNeg
abbrev zlO (L : cL) (x : Int32) : Int32 := L.2.2.2.1 x.toNatClampNeg
abbrev zlP (L : cL) (x : Int32) : Int32 := L.2.2.2.2.1 x.toNatClampNeg
abbrev zlB (L : cL) (x : Int32) : Int32 := L.2.2.2.2.2.1 x.toNatClampNeg
abbrev zlV (L : cL) (x : Int32) : Int32 := L.2.2.2.2.2.2.1 x.toNatClampNeg
abbrev zlOrd (L : cL) : cA := L.2.2.2.2.2.2.2.1
def rws (c : Nat) : List Int32 := seg pq 1 c
theorem rws_m {c : Nat} (hc : c ≤ 300) {x : Int32} : x ∈ rws c ↔ 1 ≤ x.toInt ∧ x.toInt ≤ c := by
  unfold rws
  rw [seg_mem]
  constructor
  · rintro ⟨j, h1, h2, rfl⟩; rw [pq_i (by omega)]; omega
  · rintro ⟨h1, h2⟩
    have := pn_i (x := x) (by omega)
    exact ⟨x.toNatClampNeg, by omega, by omega, pq_of (by omega)⟩
def pLt (L : cL) (x y : Int32) : Prop := (zlT L x).toInt < (zlT L y).toInt ∨ ((zlT L x).toInt = (zlT L y).toInt ∧ (zlN L x).toInt < (zlN L y).toInt)
def pRow (L : cL) (c md : Nat) (x : Int32) : Prop :=
  (0 ≤ (zlS L x).toInt ∧ (zlS L x).toInt ≤ 4) ∧ (¬ zlS L x = 4 → 1 ≤ (zlO L x).toInt ∧ (zlO L x).toInt ≤ md) ∧ (zlS L x = 1 → 0 ≤ (zlP L x).toInt ∧ (zlP L x).toInt ≤ md)
  ∧ (zlS L x = 4 → (1 ≤ (zlO L x).toInt ∧ (zlO L x).toInt ≤ c) ∧ ¬ zlS L (zlO L x) = 4 ∧ zlN L (zlO L x) = zlN L x ∧ zlV L (zlO L x) = x)
  ∧ (0 ≤ (zlN L x).toInt ∧ (zlN L x).toInt < 4) ∧ (1 ≤ (zlT L x).toInt ∧ (zlT L x).toInt ≤ c)
  ∧ (zlV L x = 0 ∨ ((1 ≤ (zlV L x).toInt ∧ (zlV L x).toInt ≤ c) ∧ zlS L (zlV L x) = 4 ∧ zlO L (zlV L x) = x))
def pLog (L : cL) (c md : Nat) : Prop :=
  (c ≤ 300 ∧ md ≤ 39) ∧ (L.2.2.2.2.2.2.2.2.1 = pq c ∧ L.2.2.2.2.2.2.2.2.2 = pq md) ∧ (∀ j, j < 300 → 0 ≤ (zlOrd L j).toInt ∧ (zlOrd L j).toInt < 301)
  ∧ (seg (zlOrd L) 0 c).Perm (rws c) ∧ (seg (zlOrd L) 0 c).Pairwise (pLt L) ∧ (∀ x ∈ rws c, pRow L c md x)
  ∧ (∀ x ∈ rws c, ∀ y ∈ rws c, zlS L x = 0 → zlS L y = 0 → zlO L x = zlO L y → x = y) ∧ (∀ j, c < j → j ≤ 300 → L.2.2.2.2.2.2.1 j = 0)
theorem rws_d (c : Nat) (hc : c ≤ 300) : (rws c).Nodup := by
  unfold rws seg
  refine List.Pairwise.map _ (R := fun a b => (a < 301 ∧ b < 301) ∧ a ≠ b) (fun a b h e => h.2 ((pq_inj (by omega) (by omega)).mp e)) ?_
  refine List.Pairwise.imp_of_mem (fun ha hb hab => ⟨?_, hab⟩) (List.nodup_range' (step := 1))
  rw [List.mem_range'_1] at ha hb
  omega
theorem pLog_m {L : cL} {c md : Nat} (h : pLog L c md) {x : Int32} : x ∈ seg (zlOrd L) 0 c ↔ 1 ≤ x.toInt ∧ x.toInt ≤ c := by
  rw [h.2.2.2.1.mem_iff, rws_m h.1.1]
theorem pLog_d {L : cL} {c md : Nat} (h : pLog L c md) : (seg (zlOrd L) 0 c).Nodup := h.2.2.2.1.nodup_iff.mpr (rws_d c h.1.1)
theorem pLog_r {L : cL} {c md : Nat} (h : pLog L c md) {x : Int32} (hx : 1 ≤ x.toInt ∧ x.toInt ≤ c) : pRow L c md x := h.2.2.2.2.2.1 x ((rws_m h.1.1).mpr hx)
/-- what is known -/
def kb (f : cA) (x : Int32) : Bool := !(f x.toNatClampNeg == 0)
theorem kb_t {f : cA} {x : Int32} : kb f x = true ↔ ¬ f x.toNatClampNeg = 0 := by
  unfold kb; simp
def pu (L : cL) (f : cA) (x : Int32) : Prop := ¬ f (zlV L x).toNatClampNeg = 0
noncomputable def pHow (L : cL) (u : Int32 → Prop) (A : pT) (x : Int32) : Int32 × pT :=
  if zlS L x = 4 then (1, A) else pIf (u x) (3, A) ((if (pStep A (zlS L x) (zlO L x) (zlP L x) (zlB L x)).1 = 0 then 2 else 1), (pStep A (zlS L x) (zlO L x) (zlP L x) (zlB L x)).2)
noncomputable def pRep (L : cL) (u : Int32 → Prop) : List Int32 → pT × (Int32 → Int32) → pT × (Int32 → Int32)
  | [], S => S
  | x :: xs, S => pRep L u xs ((pHow L u S.1 x).2, pU S.2 x (pHow L u S.1 x).1)
def pG (L : cL) (done : List Int32) (A : pT) : Prop := pW A ∧ ∀ y ∈ A.1, ∃ z ∈ done, zlS L z = 0 ∧ zlO L z = y
theorem pStep_m {A : pT} {s o t b : Int32} (h1 : 1 ≤ o.toInt) : ∀ y ∈ (pStep A s o t b).2.1, y ∈ A.1 ∨ (s = 0 ∧ y = o) := by
  intro y
  unfold pStep
  split
  · intro hy
    rcases List.mem_append.mp hy with h | h
    · exact Or.inl h
    · exact Or.inr ⟨by assumption, List.mem_singleton.mp h⟩
  · split
    · by_cases h : pMay A o t
      · rw [pIf_t h]; intro hy; exact Or.inl ((pL_ins (pIn_l h.1 h1) y).mp hy)
      · rw [pIf_f h]; exact Or.inl
    · split
      · by_cases h : pIn A o ∧ A.2.1 o ≠ -1
        · rw [pIf_t h]; intro hy; exact Or.inl ((pL_app (pIn_l h.1 h1) y).mp hy)
        · rw [pIf_f h]; exact Or.inl
      · by_cases h : pIn A o ∧ A.2.1 o = -1
        · rw [pIf_t h]
          have ho := pIn_l h.1 h1
          by_cases h2 : pMay A o (A.2.2 o)
          · rw [pIf_t h2]; intro hy; exact Or.inl ((pL_app ho y).mp hy)
          · rw [pIf_f h2]
            by_cases h3 : pMay A o 0
            · rw [pIf_t h3]; intro hy; exact Or.inl ((pL_app ho y).mp hy)
            · rw [pIf_f h3]; exact Or.inl
        · rw [pIf_f h]; exact Or.inl
theorem pG_new {L : cL} {c md : Nat} (hL : pLog L c md) {done : List Int32} {A : pT} (hG : pG L done A) (hdn : ∀ z ∈ done, z ∈ rws c) {x : Int32} (hx : x ∈ rws c) (hxd : x ∉ done) (hs : zlS L x = 0) : zlO L x ∉ A.1 := by
  intro hm
  obtain ⟨z, hz, h1, h2⟩ := hG.2 _ hm
  have := hL.2.2.2.2.2.2.1 z (hdn z hz) x hx h1 hs h2
  subst this
  exact hxd hz
theorem pG_step {L : cL} {c md : Nat} (hL : pLog L c md) {u : Int32 → Prop} {done : List Int32} {A : pT} (hG : pG L done A) (hdn : ∀ z ∈ done, z ∈ rws c) {x : Int32} (hx : x ∈ rws c) (hxd : x ∉ done) : pG L (done ++ [x]) (pHow L u A x).2 := by
  have hR := hL.2.2.2.2.2.1 x hx
  have keep : pG L (done ++ [x]) A := ⟨hG.1, fun y hy => by
    obtain ⟨z, hz, h⟩ := hG.2 y hy
    exact ⟨z, List.mem_append_left _ hz, h⟩⟩
  unfold pHow
  split
  · exact keep
  · rename_i h4
    have ho := hR.2.1 h4
    have hmd := hL.1.2
    by_cases hu : u x
    · rw [pIf_t hu]; exact keep
    · rw [pIf_f hu]
      refine ⟨pW_step hG.1 (by omega) (fun h0 => pG_new hL hG hdn hx hxd h0), fun y hy => ?_⟩
      rcases pStep_m (by omega) y hy with h | ⟨h, h2⟩
      · exact keep.2 y h
      · exact ⟨x, List.mem_append_right _ (List.mem_singleton.mpr rfl), h, h2.symm⟩
theorem knows_0 {P : cP} {x : Int32} : m_P_knows P x = 0 ↔ P.1 x.toNatClampNeg = 0 := by
  unfold m_P_knows
  split
  · rename_i h; exact ⟨fun _ => h, fun _ => rfl⟩
  · rename_i h; exact ⟨fun e => absurd e (by decide), fun e => absurd e h⟩
/-- one row is judged -/
theorem pj_judge {L : cL} {c md : Nat} (hL : pLog L c md) {u : Int32 → Prop} {done : List Int32} {A : pT} {S : cP} (hG : pG L done A) (hT : rT S.2.1 A) (hdn : ∀ z ∈ done, z ∈ rws c) {x : Int32} (hx : x ∈ rws c) (hxd : x ∉ done) (hu : u x ↔ ¬ S.1 (zlV L x).toNatClampNeg = 0) :
    ∃ T' : cT, m_P_judge L S x = (upd S.1 x.toNatClampNeg (pHow L u A x).1, T', S.2.2) ∧ rT T' (pHow L u A x).2 := by
  have hR := hL.2.2.2.2.2.1 x hx
  have hmd := hL.1.2
  unfold m_P_judge pHow
  by_cases h4 : zlS L x = 4
  · have n0 : ¬ zlS L x = 0 := by rw [h4]; decide
    have n1 : ¬ zlS L x = 1 := by rw [h4]; decide
    have n2 : ¬ zlS L x = 2 := by rw [h4]; decide
    have n3 : ¬ zlS L x = 3 := by rw [h4]; decide
    rw [if_pos h4, if_pos h4, if_neg n0, if_neg n1, if_neg n2, if_neg n3, if_neg (by decide)]
    exact ⟨S.2.1, rfl, hT⟩
  · rw [if_neg h4, if_neg h4]
    have ho := hR.2.1 h4
    have ho' : 1 ≤ (zlO L x).toInt ∧ (zlO L x).toInt < 40 := by omega
    by_cases hk : m_P_knows S (zlV L x) = 0
    · rw [if_pos hk, pIf_f (fun h => hu.mp h (knows_0.mp hk))]
      by_cases h0 : zlS L x = 0
      · rw [if_pos h0, if_neg (by decide), h0]
        exact ⟨_, rfl, pt_make (t := zlP L x) (b := zlB L x) hG.1 hT ho' (pG_new hL hG hdn hx hxd h0)⟩
      · rw [if_neg h0]
        by_cases h1 : zlS L x = 1
        · rw [if_pos h1, h1]
          have ht := hR.2.2.1 h1
          obtain ⟨a, b⟩ := pt_move hG.1 hT (o := zlO L x) (t := zlP L x) (b := zlB L x) ho' (by omega)
          rw [a]
          split
          · exact ⟨_, rfl, b⟩
          · exact ⟨_, rfl, b⟩
        · rw [if_neg h1]
          by_cases h2 : zlS L x = 2
          · rw [if_pos h2, h2]
            obtain ⟨a, b⟩ := pt_throw hG.1 hT (o := zlO L x) (t := zlP L x) (b := zlB L x) ho'
            rw [a]
            split
            · exact ⟨_, rfl, b⟩
            · exact ⟨_, rfl, b⟩
          · rw [if_neg h2]
            have h3 : zlS L x = 3 := by
              apply pi_ext
              have hr := hR.1
              have n0 : (zlS L x).toInt ≠ 0 := fun e => h0 (pi_ext (by rw [e, ti_0]))
              have n1 : (zlS L x).toInt ≠ 1 := fun e => h1 (pi_ext (by rw [e, ti_1]))
              have n2 : (zlS L x).toInt ≠ 2 := fun e => h2 (pi_ext (by rw [e, ti_2]))
              have n4 : (zlS L x).toInt ≠ 4 := fun e => h4 (pi_ext (by rw [e, ti_4]))
              rw [ti_3]; omega
            rw [if_pos h3, h3]
            obtain ⟨a, b⟩ := pt_back hG.1 hT (s := 3) (o := zlO L x) (t := zlP L x) (b := zlB L x) (by decide) ho'
            rw [a]
            split
            · exact ⟨_, rfl, b⟩
            · exact ⟨_, rfl, b⟩
    · rw [if_neg hk, pIf_t (hu.mpr (fun h => hk (knows_0.mpr h)))]
      exact ⟨S.2.1, rfl, hT⟩
theorem pHow_nz {L : cL} {u : Int32 → Prop} {A : pT} {x : Int32} : (pHow L u A x).1 = 1 ∨ (pHow L u A x).1 = 2 ∨ (pHow L u A x).1 = 3 := by
  unfold pHow
  split
  · exact Or.inl rfl
  · by_cases h : u x
    · rw [pIf_t h]; exact Or.inr (Or.inr rfl)
    · rw [pIf_f h]
      show (if _ then (2 : Int32) else 1) = 1 ∨ _
      split
      · exact Or.inr (Or.inl rfl)
      · exact Or.inl rfl
theorem pHow_n0 {L : cL} {u : Int32 → Prop} {A : pT} {x : Int32} : ¬ (pHow L u A x).1 = 0 := by
  rcases pHow_nz (L := L) (u := u) (A := A) (x := x) with h | h | h <;> rw [h] <;> decide
/-- the state of a going through -/
def pJ (L : cL) (P : cP) (done todo : List Int32) (S : cP) (A : pT) (h : Int32 → Int32) : Prop :=
  pG L done A ∧ rT S.2.1 A ∧ S.2.2 = P.2.2 ∧ (∀ j, S.1 j = 0 ↔ P.1 j = 0) ∧ (∀ x : Int32, 0 ≤ x.toInt → x.toInt ≤ 300 → x ∉ todo → S.1 x.toNatClampNeg = h x)
theorem pJ_step {L : cL} {c md : Nat} (hL : pLog L c md) {P S : cP} {done xs : List Int32} {x : Int32} {A : pT} {h : Int32 → Int32} (hJ : pJ L P done (x :: xs) S A h) (hdn : ∀ z ∈ done, z ∈ rws c) (hx : x ∈ rws c) (hxd : x ∉ done) (hk : ¬ P.1 x.toNatClampNeg = 0) : pJ L P (done ++ [x]) xs (m_P_judge L S x) (pHow L (pu L P.1) A x).2 (pU h x (pHow L (pu L P.1) A x).1) := by
  obtain ⟨T', e, hT⟩ := pj_judge hL (u := pu L P.1) hJ.1 hJ.2.1 hdn hx hxd (by unfold pu; rw [hJ.2.2.2.1])
  have hx1 := (rws_m hL.1.1).mp hx
  rw [e]
  refine ⟨pG_step hL hJ.1 hdn hx hxd, hT, hJ.2.2.1, fun j => ?_, fun y h0 h1 hy => ?_⟩
  · show upd S.1 x.toNatClampNeg _ j = 0 ↔ _
    by_cases ej : j = x.toNatClampNeg
    · rw [ej, pk_us]
      exact ⟨fun h => absurd h pHow_n0, fun h => absurd h hk⟩
    · rw [pk_un ej]; exact hJ.2.2.2.1 j
  · refine pt_upd (by omega) h0 (fun hne => hJ.2.2.2.2 y h0 h1 (fun hm => ?_))
    rcases List.mem_cons.mp hm with h | h
    · exact hne h
    · exact hy h
theorem pj_all {L : cL} {c md : Nat} (hL : pLog L c md) {P : cP} : ∀ (m i n : Nat) (S : cP) (A : pT) (h : Int32 → Int32), i + m = c → m < n → pJ L P ((seg (zlOrd L) 0 i).filter (kb P.1)) ((seg (zlOrd L) i m).filter (kb P.1)) S A h →
    pJ L P ((seg (zlOrd L) 0 c).filter (kb P.1)) [] (l_P_judgeAll_9 L n (pq i) S) (pRep L (pu L P.1) ((seg (zlOrd L) i m).filter (kb P.1)) (A, h)).1 (pRep L (pu L P.1) ((seg (zlOrd L) i m).filter (kb P.1)) (A, h)).2
  | m, i, 0, S, A, h, _, hn, _ => by omega
  | 0, i, n + 1, S, A, h, hi, hn, hJ => by
    have hc := hL.1.1
    rw [l_P_judgeAll_9, hL.2.1.1, if_pos ((pq_le (by omega) (by omega)).mpr (by omega))]
    have : i = c := by omega
    subst this
    exact hJ
  | m + 1, i, n + 1, S, A, h, hi, hn, hJ => by
    have hc := hL.1.1
    rw [l_P_judgeAll_9, hL.2.1.1, if_neg (fun h => by have := (pq_le (by omega) (by omega)).mp h; omega), pq_n (by omega), pq_inc]
    have hxm : zlOrd L i ∈ rws c := by
      have h1 := seg_get (zlOrd L) 0 c i (by omega)
      rw [Nat.zero_add] at h1
      exact hL.2.2.2.1.mem_iff.mp (List.mem_of_getElem? h1)
    have hdn : ∀ z ∈ (seg (zlOrd L) 0 i).filter (kb P.1), z ∈ rws c := fun z hz => by
      have h1 := (List.mem_filter.mp hz).1
      refine hL.2.2.2.1.mem_iff.mp ?_
      rw [← hi, seg_app]
      exact List.mem_append_left _ h1
    have hxd : zlOrd L i ∉ (seg (zlOrd L) 0 i).filter (kb P.1) := fun hz => by
      have h1 := (List.mem_filter.mp hz).1
      have h2 := pLog_d hL
      rw [← hi, seg_app, Nat.zero_add, seg_s, List.nodup_append] at h2
      exact h2.2.2 _ h1 _ List.mem_cons_self rfl
    have e1 : seg (zlOrd L) 0 (i + 1) = seg (zlOrd L) 0 i ++ [zlOrd L i] := by rw [seg_e, Nat.zero_add]
    rw [seg_s] at hJ ⊢
    by_cases hk : P.1 (zlOrd L i).toNatClampNeg = 0
    · have hk' : kb P.1 (zlOrd L i) = false := by
        unfold kb; rw [hk]; rfl
      rw [if_pos (knows_0.mpr ((hJ.2.2.2.1 _).mpr hk))]
      rw [List.filter_cons_of_neg (by rw [hk']; decide)] at hJ ⊢
      refine pj_all hL m (i + 1) n S A h (by omega) (by omega) ?_
      rw [e1, List.filter_append, List.filter_cons_of_neg (by rw [hk']; decide), List.filter_nil, List.append_nil]
      exact hJ
    · have hk' : kb P.1 (zlOrd L i) = true := kb_t.mpr hk
      rw [if_neg (fun e => hk ((hJ.2.2.2.1 _).mp (knows_0.mp e)))]
      rw [List.filter_cons_of_pos hk'] at hJ ⊢
      refine pj_all hL m (i + 1) n _ _ _ (by omega) (by omega) ?_
      rw [e1, List.filter_append, List.filter_cons_of_pos hk', List.filter_nil]
      exact pJ_step hL hJ hdn hxm hxd hk
