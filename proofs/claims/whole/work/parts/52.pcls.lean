/-! the tree of the people and the tree without arrays -/
def rT (T : cT) (A : pT) : Prop := okT T ∧ T.2.2.2.2 = pq A.1.length ∧ seg T.2.2.2.1 0 A.1.length = A.1 ∧ (∀ x : Int32, 0 ≤ x.toInt → x.toInt < 40 → (T.1 x.toNatClampNeg = 1 ↔ pIn A x)) ∧ (∀ x, pIn A x → T.2.1 x.toNatClampNeg = A.2.1 x ∧ T.2.2.1 x.toNatClampNeg = A.2.2 x)
theorem seg_shift {f g : Nat → Int32} {a m : Nat} (h : ∀ j, a ≤ j → j < a + m → g (j + 1) = f j) : seg g (a + 1) m = seg f a m := by
  induction m generalizing a with
  | zero => rfl
  | succ m ih =>
    rw [seg_s, seg_s, h a (Nat.le_refl _) (by omega), ih (fun j h1 h2 => h j (by omega) (by omega))]
/-- takeOut keeps all but one -/
theorem pt_to {T : cT} {x1 : Int32} {s : Nat} (hs : T.2.2.2.2 = pq s) (h39 : s ≤ 39) : ∀ (m k i n : Nat) (f : cA), i + m = s → k ≤ i → m < n →
    ∃ (f' : cA) (k' : Nat), l_T_takeOut_4 T x1 n (pq k) (pq i) f = (T.1, T.2.1, T.2.2.1, f', pq k') ∧ k' = (seg f 0 k ++ pRem (seg f i m) x1).length ∧ seg f' 0 k' = seg f 0 k ++ pRem (seg f i m) x1
  | m, k, i, 0, f, _, _, h => by omega
  | 0, k, i, n + 1, f, h1, h2, h3 => by
    refine ⟨f, k, ?_, by simp [seg_0, pRem, seg_len], by simp [seg_0, pRem]⟩
    rw [l_T_takeOut_4, hs, if_pos ((pq_le (by omega) (by omega)).mpr (by omega))]
  | m + 1, k, i, n + 1, f, h1, h2, h3 => by
    rw [l_T_takeOut_4, hs, if_neg (fun h => by have := (pq_le (by omega) (by omega)).mp h; omega), pq_n (by omega), pq_n (by omega), pq_inc, pq_inc, seg_s]
    split
    · rename_i he
      obtain ⟨f', k', a, b, c⟩ := pt_to hs h39 m k (i + 1) n f (by omega) (by omega) (by omega)
      have e : pRem (f i :: seg f (i + 1) m) x1 = pRem (seg f (i + 1) m) x1 := by
        unfold pRem; rw [List.filter_cons_of_neg]; simp [he]
      rw [e]
      exact ⟨f', k', a, b, c⟩
    · rename_i he
      obtain ⟨f', k', a, b, c⟩ := pt_to hs h39 m (k + 1) (i + 1) n (upd f k (f i)) (by omega) (by omega) (by omega)
      have e : pRem (f i :: seg f (i + 1) m) x1 = f i :: pRem (seg f (i + 1) m) x1 := by
        unfold pRem; rw [List.filter_cons_of_pos]; simp [he]
      have e2 : seg (upd f k (f i)) 0 (k + 1) = seg f 0 k ++ [f i] := by
        have := seg_updE (f := f) (a := 0) (k := k) (x := f i)
        rwa [Nat.zero_add] at this
      rw [e2, seg_upd (Or.inl (by omega)), List.append_assoc] at b c
      rw [e]
      exact ⟨f', k', a, b, c⟩
/-- putAt moves those behind by one -/
theorem pt_pu {T : cT} {x2 x3 : Int32} {sp : Nat} (hsp : sp ≤ 39) : ∀ (m n : Nat) (f : cA), sp + m ≤ 39 → m < n →
    ∃ f' : cA, l_T_putAt_6 T (pq sp) x2 x3 n (pq (sp + m)) f = (T.1, upd T.2.1 x2.toNatClampNeg x3, T.2.2.1, f', T.2.2.2.2 + 1) ∧ (∀ j, j < sp → f' j = f j) ∧ f' sp = x2 ∧ (∀ j, sp ≤ j → j < sp + m → f' (j + 1) = f j) ∧ ∀ j, sp + m < j → f' j = f j
  | m, 0, f, _, h => by omega
  | 0, n + 1, f, h1, h2 => by
    refine ⟨upd f sp x2, ?_, fun j h => pk_un (by omega), pk_us, fun j h3 h4 => by omega, fun j h => pk_un (by omega)⟩
    rw [l_T_putAt_6, if_pos ((pq_le (by omega) (by omega)).mpr (by omega)), pq_n (by omega)]
  | m + 1, n + 1, f, h1, h2 => by
    have e : sp + (m + 1) = (sp + m) + 1 := by omega
    rw [l_T_putAt_6, if_neg (fun h => by have := (pq_le (by omega) (by omega)).mp h; omega), e, pq_dec, pq_dec', pq_n (by omega), pq_n (by omega)]
    obtain ⟨f', a, b, c, d, g⟩ := pt_pu (T := T) (x2 := x2) (x3 := x3) hsp m n (upd f (sp + m + 1) (f (sp + m))) (by omega) (by omega)
    refine ⟨f', a, fun j h => by rw [b j h, pk_un (by omega)], c, fun j h3 h4 => ?_, fun j h => by rw [g j (by omega), pk_un (by omega)]⟩
    by_cases hj : j = sp + m
    · subst hj; rw [g _ (by omega), pk_us]
    · rw [d j h3 (by omega), pk_un (by omega)]
theorem pt_pu_rg {f f' : cA} {sp m : Nat} {x2 : Int32} (hx : 0 ≤ x2.toInt ∧ x2.toInt < 40) (hf : ∀ j, j < 40 → 0 ≤ (f j).toInt ∧ (f j).toInt < 40) (h1 : ∀ j, j < sp → f' j = f j) (h2 : f' sp = x2) (h3 : ∀ j, sp ≤ j → j < sp + m → f' (j + 1) = f j) (h4 : ∀ j, sp + m < j → f' j = f j) : ∀ j, j < 40 → 0 ≤ (f' j).toInt ∧ (f' j).toInt < 40 := by
  intro j hj
  by_cases a : j < sp
  · rw [h1 j a]; exact hf j hj
  · by_cases b : j = sp
    · rw [b, h2]; exact hx
    · by_cases c : sp + m < j
      · rw [h4 j c]; exact hf j hj
      · obtain ⟨i, rfl⟩ : ∃ i, j = i + 1 := ⟨j - 1, by omega⟩
        rw [h3 i (by omega) (by omega)]; exact hf i (by omega)
theorem pt_pu_seg {f f' : cA} {sp m : Nat} {x2 : Int32} (h1 : ∀ j, j < sp → f' j = f j) (h2 : f' sp = x2) (h3 : ∀ j, sp ≤ j → j < sp + m → f' (j + 1) = f j) : seg f' 0 (sp + m + 1) = seg f 0 sp ++ x2 :: seg f sp m := by
  rw [show sp + m + 1 = sp + (m + 1) by omega, seg_app, Nat.zero_add, seg_s, h2, seg_shift h3, seg_congr (fun j _ h => h1 j (by omega))]
/-- spotBehind -/
theorem pt_sb {T : cT} {b t : Int32} {s : Nat} (hs : T.2.2.2.2 = pq s) (h39 : s ≤ 39) : ∀ (m i n : Nat), i + m = s → m < n →
    (T.2.1 b.toNatClampNeg = t ∧ ∃ l1 l2, seg T.2.2.2.1 i m = l1 ++ b :: l2 ∧ b ∉ l1 ∧ l_T_spotBehind_2 T b t n (pq i) = pq (i + l1.length + 1)) ∨ (¬ (b ∈ seg T.2.2.2.1 i m ∧ T.2.1 b.toNatClampNeg = t) ∧ l_T_spotBehind_2 T b t n (pq i) = 0)
  | m, i, 0, _, h => by omega
  | 0, i, n + 1, h1, h2 => by
    refine Or.inr ⟨fun h => (List.not_mem_nil h.1).elim, ?_⟩
    rw [l_T_spotBehind_2, hs, if_pos ((pq_le (by omega) (by omega)).mpr (by omega))]
  | m + 1, i, n + 1, h1, h2 => by
    have IH := pt_sb (b := b) (t := t) hs h39 m (i + 1) n (by omega) (by omega)
    rw [l_T_spotBehind_2, hs, if_neg (fun h => by have := (pq_le (by omega) (by omega)).mp h; omega), pq_n (by omega), pq_inc, seg_s]
    by_cases e : T.2.2.2.1 i = b
    · rw [if_pos e]
      by_cases e2 : T.2.1 b.toNatClampNeg = t
      · rw [if_pos e2]
        exact Or.inl ⟨e2, [], seg T.2.2.2.1 (i + 1) m, by rw [e]; rfl, List.not_mem_nil, rfl⟩
      · rw [if_neg e2]
        refine Or.inr ⟨fun h => e2 h.2, ?_⟩
        rcases IH with ⟨h, _⟩ | ⟨_, h⟩
        · exact absurd h e2
        · exact h
    · rw [if_neg e]
      rcases IH with ⟨h, l1, l2, h3, h4, h5⟩ | ⟨h3, h4⟩
      · refine Or.inl ⟨h, T.2.2.2.1 i :: l1, l2, by rw [h3]; rfl, fun hm => ?_, by rw [h5, List.length_cons]; congr 1; omega⟩
        rcases List.mem_cons.mp hm with h | h
        · exact e h.symm
        · exact h4 h
      · refine Or.inr ⟨fun hm => h3 ⟨?_, hm.2⟩, h4⟩
        rcases List.mem_cons.mp hm.1 with h | h
        · exact absurd h.symm e
        · exact h
theorem pAft_at {b o : Int32} {l2 : List Int32} : ∀ {l1 : List Int32}, b ∉ l1 → pAft b o (l1 ++ b :: l2) = (l1 ++ [b]) ++ o :: l2
  | [], _ => by show pAft b o (b :: l2) = _; unfold pAft; rw [if_pos rfl]; rfl
  | y :: ys, h => by
    have h' : b ≠ y ∧ b ∉ ys := by simpa using h
    show pAft b o (y :: (ys ++ b :: l2)) = _
    unfold pAft
    rw [if_neg (Ne.symm h'.1), pAft_at h'.2]; rfl
/-- stepsUp -/
theorem pt_su {T : cT} {A : pT} {d : Int32 → Nat} (hW : pW A) (hd : pD A d) (hp : ∀ x, pIn A x → T.2.1 x.toNatClampNeg = A.2.1 x) {o : Int32} : ∀ (m : Nat) (x : Int32) (c n : Nat), pIn A x → d x = m → c + m < 40 → m + 1 < n →
    (∃ k, pB A.2.1 k x o ∧ k ≤ m ∧ l_T_stepsUp_5 T o n x (pq c) = pq (c + k)) ∨ ((¬ ∃ k, pB A.2.1 k x o) ∧ l_T_stepsUp_5 T o n x (pq c) = -1)
  | m, x, c, 0, _, _, _, h => by omega
  | m, x, c, n + 1, hx, hm, hc, hn => by
    have hx1 := pIn_ne hW hx
    rw [l_T_stepsUp_5, ← pq_40, if_neg (fun h => by have := (pq_le (by omega) (by omega)).mp h; omega), if_neg hx1, pq_inc, hp x hx]
    by_cases e : x = o
    · rw [if_pos e]; exact Or.inl ⟨0, e, by omega, rfl⟩
    · rw [if_neg e]
      have up : (A.2.1 x = -1) ∨ (pIn A (A.2.1 x) ∧ d x = d (A.2.1 x) + 1) := by
        rcases hx with rfl | hx
        · exact Or.inl hW.2.2.1.1
        · rcases (hd.2 x hx).2 with h | h
          · exact Or.inl h.1
          · exact Or.inr h
      rcases up with h | ⟨h1, h2⟩
      · rw [h]
        refine Or.inr ⟨?_, ?_⟩
        · rintro ⟨k, hk⟩
          cases k with
          | zero => exact e hk
          | succ k => exact hk.1 h
        · obtain ⟨n', rfl⟩ : ∃ n', n = n' + 1 := ⟨n - 1, by omega⟩
          rw [l_T_stepsUp_5]
          split
          · rfl
          · rw [if_pos rfl]
      · obtain ⟨m', rfl⟩ : ∃ m', m = m' + 1 := ⟨m - 1, by omega⟩
        rcases pt_su hW hd hp m' (A.2.1 x) (c + 1) n h1 (by omega) (by omega) (by omega) with ⟨k, a, b, g⟩ | ⟨a, b⟩
        · exact Or.inl ⟨k + 1, ⟨pIn_ne hW h1, a⟩, by omega, by rw [g]; congr 1; omega⟩
        · refine Or.inr ⟨?_, b⟩
          rintro ⟨k, hk⟩
          cases k with
          | zero => exact e hk
          | succ k => exact a ⟨k, hk.2⟩
theorem pD_8 {A : pT} {d : Int32 → Nat} (hd : pD A d) {x : Int32} (h : pIn A x) : d x ≤ 8 := by
  rcases h with rfl | h
  · have := hd.1; omega
  · exact (hd.2 x h).1
theorem pt_su' {T : cT} {A : pT} (hW : pW A) (hr : rT T A) (x o : Int32) (hx : pIn A x) : (∃ k, pB A.2.1 k x o ∧ k ≤ 8 ∧ m_T_stepsUp T x o = pq k) ∨ ((¬ ∃ k, pB A.2.1 k x o) ∧ m_T_stepsUp T x o = -1) := by
  obtain ⟨d, hd⟩ := hW.2.2.2.1
  have h8 := pD_8 hd hx
  have := pt_su hW hd (fun x h => (hr.2.2.2.2 x h).1) (o := o) (d x) x 0 41 hx rfl (by omega) (by omega)
  rcases this with ⟨k, a, b, c⟩ | h
  · exact Or.inl ⟨k, a, by omega, by rw [Nat.zero_add] at c; exact c⟩
  · exact Or.inr h
/-- topOf -/
theorem pt_to0 {T : cT} {A : pT} {d : Int32 → Nat} (hW : pW A) (hd : pD A d) (hp : ∀ x, pIn A x → T.2.1 x.toNatClampNeg = A.2.1 x) : ∀ (m : Nat) (x : Int32) (c n : Nat), pIn A x → d x = m → c + m < 40 → m < n →
    pB A.2.1 m x (l_T_topOf_4 T n x (pq c)) ∧ A.2.1 (l_T_topOf_4 T n x (pq c)) = -1
  | m, x, c, 0, _, _, _, h => by omega
  | m, x, c, n + 1, hx, hm, hc, hn => by
    rw [l_T_topOf_4, ← pq_40, if_neg (fun h => by have := (pq_le (by omega) (by omega)).mp h; omega), pq_inc, hp x hx]
    have up : (A.2.1 x = -1 ∧ d x = 0) ∨ (pIn A (A.2.1 x) ∧ d x = d (A.2.1 x) + 1) := by
      rcases hx with rfl | hx
      · exact Or.inl ⟨hW.2.2.1.1, hd.1⟩
      · exact (hd.2 x hx).2
    rcases up with ⟨h, h0⟩ | ⟨h1, h2⟩
    · rw [if_pos h]
      obtain rfl : m = 0 := by omega
      exact ⟨rfl, h⟩
    · rw [if_neg (pIn_ne hW h1)]
      obtain ⟨m', rfl⟩ : ∃ m', m = m' + 1 := ⟨m - 1, by omega⟩
      obtain ⟨a, b⟩ := pt_to0 hW hd hp m' (A.2.1 x) (c + 1) n h1 (by omega) (by omega) (by omega)
      exact ⟨⟨pIn_ne hW h1, a⟩, b⟩
theorem pt_to0' {T : cT} {A : pT} {d : Int32 → Nat} (hW : pW A) (hd : pD A d) (hr : rT T A) {x : Int32} (hx : pIn A x) : pB A.2.1 (d x) x (m_T_topOf T x) ∧ A.2.1 (m_T_topOf T x) = -1 := by
  have h8 := pD_8 hd hx
  exact pt_to0 hW hd (fun x h => (hr.2.2.2.2 x h).1) (d x) x 0 41 hx rfl (by omega) (by omega)
/-- mayLie -/
theorem pt_ml {T : cT} {A : pT} (hW : pW A) (hr : rT T A) {o : Int32} {a : Nat} (ha : a ≤ 8) : ∀ (m i n : Nat), i + m = A.1.length → m < n →
    ((∀ x ∈ seg T.2.2.2.1 i m, ∀ k, pB A.2.1 k x o → a + 1 + k ≤ 8) ∧ l_T_mayLie_47 T o n (pq a) (pq i) = 1) ∨ ((¬ ∀ x ∈ seg T.2.2.2.1 i m, ∀ k, pB A.2.1 k x o → a + 1 + k ≤ 8) ∧ l_T_mayLie_47 T o n (pq a) (pq i) = 0)
  | m, i, 0, _, h => by omega
  | 0, i, n + 1, h1, h2 => by
    have hl := pW_len hW
    refine Or.inl ⟨fun x hx => (List.not_mem_nil hx).elim, ?_⟩
    rw [l_T_mayLie_47, hr.2.1, if_pos ((pq_le (by omega) (by omega)).mpr (by omega))]
  | m + 1, i, n + 1, h1, h2 => by
    have hl := pW_len hW
    have IH := pt_ml hW hr (o := o) ha m (i + 1) n (by omega) (by omega)
    rw [l_T_mayLie_47, hr.2.1, if_neg (fun h => by have := (pq_le (by omega) (by omega)).mp h; omega), pq_n (by omega), pq_inc, pq_inc, seg_s]
    have hi : pIn A (T.2.2.2.1 i) := by
      refine Or.inr ?_
      have := seg_get T.2.2.2.1 0 A.1.length i (by omega)
      rw [hr.2.2.1, Nat.zero_add] at this
      exact List.mem_of_getElem? this
    rcases pt_su' hW hr (T.2.2.2.1 i) o hi with ⟨k, hk, hk8, e⟩ | ⟨hk, e⟩
    · rw [e, if_neg (pq_ne1 (by omega)), pq_add, show (8 : Int32) = pq 8 from rfl]
      by_cases h : a + 1 + k ≤ 8
      · rw [if_pos ((pq_le (b := 8) (by omega) (by omega)).mpr h)]
        rcases IH with ⟨x1, x2⟩ | ⟨x1, x2⟩
        · refine Or.inl ⟨fun x hx => ?_, x2⟩
          rcases List.mem_cons.mp hx with g | g
          · intro j hj
            rw [g] at hj
            rw [pB_u hW hi hj hk]; exact h
          · exact x1 x g
        · exact Or.inr ⟨fun hh => x1 (fun x hx => hh x (List.mem_cons_of_mem _ hx)), x2⟩
      · rw [if_neg (fun hh => h ((pq_le (b := 8) (by omega) (by omega)).mp hh))]
        exact Or.inr ⟨fun hh => h (hh _ List.mem_cons_self k hk), rfl⟩
    · rw [if_pos e]
      rcases IH with ⟨x1, x2⟩ | ⟨x1, x2⟩
      · refine Or.inl ⟨fun x hx => ?_, x2⟩
        rcases List.mem_cons.mp hx with g | g
        · intro j hj
          rw [g] at hj
          exact absurd ⟨j, hj⟩ hk
        · exact x1 x g
      · exact Or.inr ⟨fun hh => x1 (fun x hx => hh x (List.mem_cons_of_mem _ hx)), x2⟩
theorem pt_in0 {T : cT} {A : pT} (hr : rT T A) {x : Int32} (h0 : 0 ≤ x.toInt) (h1 : x.toInt < 40) : (T.1 x.toNatClampNeg = 0 ↔ ¬ pIn A x) := by
  rw [← hr.2.2.2.1 x h0 h1]
  rcases hr.1.2.2.2.1 x.toNatClampNeg (ti_ix h0 h1) with h | h
  · rw [h]; exact ⟨fun _ => by decide, fun _ => rfl⟩
  · rw [h]; exact ⟨fun e => absurd e (by decide), fun e => absurd rfl e⟩
theorem pt_may {T : cT} {A : pT} (hW : pW A) (hr : rT T A) {o t : Int32} (ho : 0 ≤ o.toInt ∧ o.toInt < 40) (ht : 0 ≤ t.toInt ∧ t.toInt < 40) : (pMay A o t ∧ m_T_mayLie T o t = 1) ∨ (¬ pMay A o t ∧ m_T_mayLie T o t = 0) := by
  have hl := pW_len hW
  unfold m_T_mayLie
  by_cases h1 : pIn A o
  · rw [if_neg (fun e => (pt_in0 hr ho.1 ho.2).mp e h1)]
    by_cases h2 : pIn A t
    · rw [if_neg (fun e => (pt_in0 hr ht.1 ht.2).mp e h2)]
      rcases pt_su' hW hr t 0 h2 with ⟨a, ha, ha8, ea⟩ | ⟨ha, ea⟩
      · rw [ea, if_neg (pq_ne1 (by omega))]
        rcases pt_su' hW hr t o h2 with ⟨k, hk, hk8, e⟩ | ⟨hk, e⟩
        · rw [e, if_neg (pq_ne1 (by omega))]
          exact Or.inr ⟨fun h => h.2.2.2.1 ⟨k, hk⟩, rfl⟩
        · rw [if_pos e]
          rcases pt_ml hW hr (o := o) ha8 A.1.length 0 41 (by omega) (by omega) with ⟨x1, x2⟩ | ⟨x1, x2⟩
          · refine Or.inl ⟨⟨h1, h2, ⟨a, ha⟩, hk, fun x hx j k hj hk => ?_⟩, x2⟩
            rw [pB_u hW h2 hj ha]
            exact x1 x (by rw [hr.2.2.1]; exact hx) k hk
          · refine Or.inr ⟨fun h => x1 (fun x hx k hk => ?_), x2⟩
            rw [hr.2.2.1] at hx
            exact h.2.2.2.2 x hx a k ha hk
      · rw [if_pos ea]
        exact Or.inr ⟨fun h => ha h.2.2.1, rfl⟩
    · rw [if_pos ((pt_in0 hr ht.1 ht.2).mpr h2)]
      exact Or.inr ⟨fun h => h2 h.2.1, rfl⟩
  · rw [if_pos ((pt_in0 hr ho.1 ho.2).mpr h1)]
    exact Or.inr ⟨fun h => h1 h.1, rfl⟩
