/-! orders: putting in, and what is counted from a row on -/
theorem pLt_t {L : cL} {x y z : Int32} (h1 : pLt L x y) (h2 : pLt L y z) : pLt L x z := by
  unfold pLt at *; omega
theorem pLt_i {L : cL} {x : Int32} : ¬ pLt L x x := by
  unfold pLt; omega
theorem pLt_a {L : cL} {x y : Int32} (h : pLt L x y) : ¬ pLt L y x := fun h2 => pLt_i (pLt_t h h2)
theorem pw_tot {R : Int32 → Int32 → Prop} : ∀ {l : List Int32} {x y : Int32}, l.Pairwise R → x ∈ l → y ∈ l → x ≠ y → R x y ∨ R y x
  | [], x, y, _, h, _, _ => (List.not_mem_nil h).elim
  | z :: l, x, y, hp, hx, hy, hne => by
    obtain ⟨h1, h2⟩ := List.pairwise_cons.mp hp
    rcases List.mem_cons.mp hx with hx | hx
    · rcases List.mem_cons.mp hy with hy | hy
      · exact absurd (hx.trans hy.symm) hne
      · rw [hx]; exact Or.inl (h1 y hy)
    · rcases List.mem_cons.mp hy with hy | hy
      · rw [hy]; exact Or.inr (h1 x hx)
      · exact pw_tot h2 hx hy hne
theorem pw_eq {L : cL} : ∀ {l m : List Int32}, l.Pairwise (pLt L) → m.Pairwise (pLt L) → (∀ x, x ∈ l ↔ x ∈ m) → l = m
  | [], [], _, _, _ => rfl
  | [], y :: m, _, _, h => ((h y).mpr List.mem_cons_self |> List.not_mem_nil).elim
  | x :: l, [], _, _, h => ((h x).mp List.mem_cons_self |> List.not_mem_nil).elim
  | x :: l, y :: m, h1, h2, h => by
    obtain ⟨a1, a2⟩ := List.pairwise_cons.mp h1
    obtain ⟨b1, b2⟩ := List.pairwise_cons.mp h2
    have e : x = y := by
      rcases List.mem_cons.mp ((h x).mp List.mem_cons_self) with g | g
      · exact g
      · rcases List.mem_cons.mp ((h y).mpr List.mem_cons_self) with k | k
        · exact k.symm
        · exact absurd (b1 x g) (pLt_a (a1 y k))
    subst e
    congr 1
    refine pw_eq a2 b2 (fun z => ⟨fun hz => ?_, fun hz => ?_⟩)
    · rcases List.mem_cons.mp ((h z).mp (List.mem_cons_of_mem _ hz)) with g | g
      · rw [g] at hz; exact absurd (a1 x hz) pLt_i
      · exact g
    · rcases List.mem_cons.mp ((h z).mpr (List.mem_cons_of_mem _ hz)) with g | g
      · rw [g] at hz; exact absurd (b1 x hz) pLt_i
      · exact g
theorem pw_ins {L : cL} {a b : List Int32} {r : Int32} (hp : (a ++ b).Pairwise (pLt L)) (hb : ∀ x ∈ b, pLt L r x) (ha : a = [] ∨ ∃ a' y, a = a' ++ [y] ∧ pLt L y r) : (a ++ r :: b).Pairwise (pLt L) := by
  obtain ⟨h1, h2, h3⟩ := List.pairwise_append.mp hp
  have har : ∀ x ∈ a, pLt L x r := by
    intro x hx
    rcases ha with rfl | ⟨a', y, rfl, hy⟩
    · exact (List.not_mem_nil hx).elim
    · rcases List.mem_append.mp hx with g | g
      · have := (List.pairwise_append.mp h1).2.2 x g y (List.mem_singleton.mpr rfl)
        exact pLt_t this hy
      · rw [List.mem_singleton.mp g]; exact hy
  refine List.pairwise_append.mpr ⟨h1, List.pairwise_cons.mpr ⟨hb, h2⟩, fun x hx y hy => ?_⟩
  rcases List.mem_cons.mp hy with g | g
  · rw [g]; exact har x hx
  · exact h3 x hx y g
/-- a shift that goes on while bf holds -/
def pSh (bf : Int32 → Prop) (f f' : cA) (k k' : Nat) : Prop := k' ≤ k ∧ (∀ j, j < k' → f' j = f j) ∧ (∀ j, k' ≤ j → j < k → f' (j + 1) = f j ∧ bf (f j)) ∧ (∀ j, k < j → f' j = f j) ∧ (k' = 0 ∨ ¬ bf (f (k' - 1)))
theorem pSh_0 {bf : Int32 → Prop} {f : cA} {k : Nat} (h : k = 0 ∨ ¬ bf (f (k - 1))) : pSh bf f f k k := ⟨Nat.le_refl _, fun _ _ => rfl, fun j h1 h2 => by omega, fun _ _ => rfl, h⟩
theorem pSh_s {bf : Int32 → Prop} {f f' : cA} {k k' : Nat} (hb : bf (f k)) (h : pSh bf (upd f (k + 1) (f k)) f' k k') : pSh bf f f' (k + 1) k' := by
  obtain ⟨h1, h2, h3, h4, h5⟩ := h
  refine ⟨by omega, fun j hj => by rw [h2 j hj, pk_un (by omega)], fun j hj1 hj2 => ?_, fun j hj => by rw [h4 j (by omega), pk_un (by omega)], ?_⟩
  · by_cases e : j = k
    · subst e
      rw [h4 _ (by omega), pk_us]; exact ⟨rfl, hb⟩
    · have := h3 j hj1 (by omega)
      rw [pk_un (by omega)] at this
      exact this
  · rcases h5 with h5 | h5
    · exact Or.inl h5
    · rw [pk_un (by omega)] at h5; exact Or.inr h5
theorem pSh_seg {bf : Int32 → Prop} {f f' : cA} {k k' : Nat} {r : Int32} (h : pSh bf f f' k k') : seg (upd f' k' r) 0 (k + 1) = seg f 0 k' ++ r :: seg f k' (k - k') ∧ seg f 0 k = seg f 0 k' ++ seg f k' (k - k') ∧ (∀ x ∈ seg f k' (k - k'), bf x) ∧ (seg f 0 k' = [] ∨ ∃ a' y, seg f 0 k' = a' ++ [y] ∧ ¬ bf y) := by
  obtain ⟨h1, h2, h3, h4, h5⟩ := h
  obtain ⟨m, rfl⟩ : ∃ m, k = k' + m := ⟨k - k', by omega⟩
  have em : k' + m - k' = m := by omega
  rw [em]
  refine ⟨?_, ?_, fun x hx => ?_, ?_⟩
  · refine pt_pu_seg (fun j hj => by rw [pk_un (by omega)]; exact h2 j hj) pk_us (fun j hj1 hj2 => ?_)
    rw [pk_un (by omega)]; exact (h3 j hj1 hj2).1
  · rw [seg_app, Nat.zero_add]
  · obtain ⟨j, g1, g2, rfl⟩ := seg_mem.mp hx
    exact (h3 j g1 g2).2
  · rcases h5 with h5 | h5
    · rw [h5]; exact Or.inl rfl
    · by_cases e : k' = 0
      · rw [e]; exact Or.inl rfl
      · obtain ⟨n, rfl⟩ : ∃ n, k' = n + 1 := ⟨k' - 1, by omega⟩
        refine Or.inr ⟨seg f 0 n, f n, by rw [seg_e, Nat.zero_add], ?_⟩
        rw [Nat.add_sub_cancel] at h5; exact h5
/-- what is counted from a row on -/
def pQ (L : cL) (f : cA) (x : Int32) : Bool := kb f x && !(zlS L x == 4)
theorem pc_from {L : cL} {P : cP} {r : Int32} : ∀ (i n k : Nat), i < 300 → i + 1 < n → r ∈ seg (zlOrd L) 0 (i + 1) →
    ∃ a b, seg (zlOrd L) 0 (i + 1) = a ++ r :: b ∧ l_P_countFrom_20 L P r n (pq k) (pq i) = pq (k + ((r :: b).filter (pQ L P.1)).length)
  | i, 0, k, _, h, _ => by omega
  | i, n + 1, k, hi, hn, hm => by
    have e1 : seg (zlOrd L) 0 (i + 1) = seg (zlOrd L) 0 i ++ [zlOrd L i] := by rw [seg_e, Nat.zero_add]
    have hlt : ¬ pq i < 0 := fun h => by
      have := (pq_lt (b := 0) (by omega) (by omega)).mp h
      omega
    rw [l_P_countFrom_20, if_neg hlt, pq_n (by omega)]
    have one : ∀ k', k' = k + (if pQ L P.1 (zlOrd L i) then 1 else 0) → ((zlOrd L i) = r → ∃ a b, seg (zlOrd L) 0 (i + 1) = a ++ r :: b ∧ pq k' = pq (k + ((r :: b).filter (pQ L P.1)).length)) ∧ (¬ (zlOrd L i) = r → ∃ a b, seg (zlOrd L) 0 (i + 1) = a ++ r :: b ∧ l_P_countFrom_20 L P r n (pq k') (pq i + (-1)) = pq (k + ((r :: b).filter (pQ L P.1)).length)) := by
      intro k' hk'
      refine ⟨fun e => ⟨seg (zlOrd L) 0 i, [], by rw [e1, e], ?_⟩, fun e => ?_⟩
      · rw [hk', e]
        congr 2
        by_cases hq : pQ L P.1 r = true
        · rw [if_pos hq, List.filter_cons_of_pos hq]; rfl
        · rw [if_neg hq, List.filter_cons_of_neg hq]; rfl
      · have hm' : r ∈ seg (zlOrd L) 0 i := by
          rw [e1] at hm
          rcases List.mem_append.mp hm with h | h
          · exact h
          · exact absurd (List.mem_singleton.mp h).symm e
        cases i with
        | zero => exact (List.not_mem_nil hm').elim
        | succ i =>
          obtain ⟨a, b, h1, h2⟩ := pc_from (P := P) i n k' (by omega) (by omega) hm'
          refine ⟨a, b ++ [zlOrd L (i + 1)], by rw [e1, h1]; simp, ?_⟩
          rw [pq_dec, h2, hk']
          congr 1
          rw [show r :: (b ++ [zlOrd L (i + 1)]) = (r :: b) ++ [zlOrd L (i + 1)] by rfl, List.filter_append, List.length_append]
          by_cases hq : pQ L P.1 (zlOrd L (i + 1)) = true
          · rw [if_pos hq, List.filter_cons_of_pos hq, List.filter_nil, List.length_singleton]; omega
          · rw [if_neg hq, List.filter_cons_of_neg hq, List.filter_nil, List.length_nil]; omega
    by_cases hk : m_P_knows P (zlOrd L i) = 0
    · have hq : ¬ pQ L P.1 (zlOrd L i) = true := by
        unfold pQ; rw [Bool.and_eq_true]; intro h; exact kb_t.mp h.1 (knows_0.mp hk)
      have h := one k (by rw [if_neg hq]; rfl)
      rw [if_pos hk]
      by_cases e : zlOrd L i = r
      · rw [if_pos e]; exact h.1 e
      · rw [if_neg e]; exact h.2 e
    · rw [if_neg hk]
      by_cases h4 : zlS L (zlOrd L i) = 4
      · have hq : ¬ pQ L P.1 (zlOrd L i) = true := by
          unfold pQ; rw [Bool.and_eq_true]; intro h; have := h.2; rw [h4] at this; exact absurd this (by decide)
        have h := one k (by rw [if_neg hq]; rfl)
        rw [if_pos h4]
        by_cases e : zlOrd L i = r
        · rw [if_pos e]; exact h.1 e
        · rw [if_neg e]; exact h.2 e
      · have hq : pQ L P.1 (zlOrd L i) = true := by
          unfold pQ; rw [Bool.and_eq_true]
          refine ⟨kb_t.mpr (fun e => hk (knows_0.mpr e)), ?_⟩
          simp [h4]
        have h := one (k + 1) (by rw [if_pos hq])
        rw [if_neg h4, pq_inc]
        by_cases e : zlOrd L i = r
        · rw [if_pos e]; exact h.1 e
        · rw [if_neg e]; exact h.2 e
theorem pc_from' {L : cL} {c md : Nat} (hL : pLog L c md) {P : cP} {r : Int32} (hr : r ∈ rws c) : ∃ a b, seg (zlOrd L) 0 c = a ++ r :: b ∧ m_P_countFrom L P r = if P.1 r.toNatClampNeg = 0 then 0 else pq (((r :: b).filter (pQ L P.1)).length) := by
  have hc := hL.1.1
  have hr1 := (rws_m hc).mp hr
  have hm : r ∈ seg (zlOrd L) 0 c := (pLog_m hL).mpr hr1
  obtain ⟨i, rfl⟩ : ∃ i, c = i + 1 := ⟨c - 1, by omega⟩
  obtain ⟨a, b, h1, h2⟩ := pc_from (P := P) i 302 0 (by omega) (by omega) hm
  refine ⟨a, b, h1, ?_⟩
  unfold m_P_countFrom
  by_cases hk : P.1 r.toNatClampNeg = 0
  · rw [if_pos (knows_0.mpr hk), if_pos hk]
  · rw [if_neg (fun e => hk (knows_0.mp e)), if_neg hk, hL.2.1.1, pq_dec']
    rw [Nat.zero_add] at h2
    exact h2
/-- the same number, without the order's array -/
theorem pc_rows {L : cL} {c md : Nat} (hL : pLog L c md) {f : cA} {r : Int32} {a b : List Int32} (h : seg (zlOrd L) 0 c = a ++ r :: b) (g : Int32 → Bool) (hg : ∀ x ∈ rws c, g x = true ↔ ¬ pLt L x r) : ((r :: b).filter (pQ L f)).length = ((rws c).filter (fun x => pQ L f x && g x)).length := by
  have hp := hL.2.2.2.2.1
  have hpm := hL.2.2.2.1
  rw [← (hpm.filter _).length_eq]
  have hin : ∀ x, x ∈ a ++ r :: b → x ∈ rws c := fun x hx => hpm.mem_iff.mp (by rw [h]; exact hx)
  rw [h] at hp ⊢
  obtain ⟨h1, h2, h3⟩ := List.pairwise_append.mp hp
  rw [List.filter_append]
  have e1 : a.filter (fun x => pQ L f x && g x) = [] := by
    rw [List.filter_eq_nil_iff]
    intro x hx hq
    rw [Bool.and_eq_true] at hq
    exact (hg x (hin x (List.mem_append_left _ hx))).mp hq.2 (h3 x hx r List.mem_cons_self)
  have e2 : (r :: b).filter (fun x => pQ L f x && g x) = (r :: b).filter (pQ L f) := by
    apply List.filter_congr
    intro x hx
    have : g x = true := (hg x (hin x (List.mem_append_right _ hx))).mpr (fun hlt => by
      rcases List.mem_cons.mp hx with e | e
      · rw [e] at hlt; exact pLt_i hlt
      · exact pLt_a ((List.pairwise_cons.mp h2).1 x e) hlt)
    rw [this, Bool.and_true]
  rw [e1, e2, List.nil_append]
