/-! a tree without arrays: the line of all that are there but the root, the parent of each (-1: the bin), where each was last -/
abbrev pT : Type := List Int32 × (Int32 → Int32) × (Int32 → Int32)
def pU (g : Int32 → Int32) (o v : Int32) : Int32 → Int32 := fun x => if x = o then v else g x
theorem pU_s {g : Int32 → Int32} {o v : Int32} : pU g o v o = v := if_pos rfl
theorem pU_n {g : Int32 → Int32} {o v x : Int32} (h : x ≠ o) : pU g o v x = g x := if_neg h
/-- x lies k steps below o -/
def pB (p : Int32 → Int32) : Nat → Int32 → Int32 → Prop
  | 0, x, o => x = o
  | k + 1, x, o => p x ≠ -1 ∧ pB p k (p x) o
def pIn (A : pT) (x : Int32) : Prop := x = 0 ∨ x ∈ A.1
def pD (A : pT) (d : Int32 → Nat) : Prop := d 0 = 0 ∧ ∀ x ∈ A.1, d x ≤ 8 ∧ ((A.2.1 x = -1 ∧ d x = 0) ∨ (pIn A (A.2.1 x) ∧ d x = d (A.2.1 x) + 1))
def pW (A : pT) : Prop := A.1.Nodup ∧ (∀ x ∈ A.1, 1 ≤ x.toInt ∧ x.toInt < 40) ∧ (A.2.1 0 = -1 ∧ A.2.2 0 = -1) ∧ (∃ d, pD A d) ∧ (∀ x ∈ A.1, 0 ≤ (A.2.2 x).toInt ∧ (A.2.2 x).toInt < 40)
def pMay (A : pT) (o t : Int32) : Prop := pIn A o ∧ pIn A t ∧ (∃ k, pB A.2.1 k t 0) ∧ (¬ ∃ k, pB A.2.1 k t o) ∧ ∀ x ∈ A.1, ∀ a k, pB A.2.1 a t 0 → pB A.2.1 k x o → a + 1 + k ≤ 8
def pRem (l : List Int32) (o : Int32) : List Int32 := l.filter (fun x => !(x == o))
def pAft (b o : Int32) : List Int32 → List Int32
  | [] => []
  | y :: ys => if y = b then y :: o :: ys else y :: pAft b o ys
def pIns (l : List Int32) (p : Int32 → Int32) (b t o : Int32) : List Int32 := if b ∈ l ∧ p b = t then pAft b o l else o :: l
def pMove (A : pT) (o t b : Int32) : pT := (pIns (pRem A.1 o) A.2.1 b t o, pU A.2.1 o t, pU A.2.2 o t)
def pThrow (A : pT) (o : Int32) : pT := (pRem A.1 o ++ [o], pU A.2.1 o (-1), A.2.2)
def pBack (A : pT) (o t : Int32) : pT := (pRem A.1 o ++ [o], pU A.2.1 o t, pU A.2.2 o t)
def pMake (A : pT) (o : Int32) : pT := (A.1 ++ [o], pU A.2.1 o (-1), pU A.2.2 o 0)
noncomputable def pStep (A : pT) (s o t b : Int32) : Int32 × pT :=
  if s = 0 then (1, pMake A o) else if s = 1 then pIf (pMay A o t) (1, pMove A o t b) (0, A)
  else if s = 2 then pIf (pIn A o ∧ A.2.1 o ≠ -1) (1, pThrow A o) (0, A)
  else pIf (pIn A o ∧ A.2.1 o = -1) (pIf (pMay A o (A.2.2 o)) (1, pBack A o (A.2.2 o)) (pIf (pMay A o 0) (1, pBack A o 0) (0, A))) (0, A)
theorem pIn_r {A : pT} (hW : pW A) {x : Int32} (h : pIn A x) : 0 ≤ x.toInt ∧ x.toInt < 40 := by
  rcases h with rfl | h
  · rw [ti_0]; omega
  · have := hW.2.1 x h; omega
theorem pIn_ne {A : pT} (hW : pW A) {x : Int32} (h : pIn A x) : x ≠ -1 := by
  have := pIn_r hW h
  rintro rfl
  rw [ti_m1] at this; omega
theorem pIn_l {A : pT} {x : Int32} (h : pIn A x) (h1 : 1 ≤ x.toInt) : x ∈ A.1 := by
  rcases h with rfl | h
  · rw [ti_0] at h1; omega
  · exact h
theorem pB_d {A : pT} {d : Int32 → Nat} (hW : pW A) (hd : pD A d) : ∀ (k : Nat) (x o : Int32), pIn A x → pB A.2.1 k x o → pIn A o ∧ d x = d o + k
  | 0, x, o, hx, h => by cases h; exact ⟨hx, rfl⟩
  | k + 1, x, o, hx, h => by
    obtain ⟨h1, h2⟩ := h
    rcases hx with rfl | hx
    · exact absurd hW.2.2.1.1 h1
    · rcases (hd.2 x hx).2 with ⟨e, _⟩ | ⟨hp, e⟩
      · exact absurd e h1
      · obtain ⟨a, b⟩ := pB_d hW hd k _ o hp h2
        exact ⟨a, by omega⟩
theorem pB_u {A : pT} (hW : pW A) {k j : Nat} {x o : Int32} (hx : pIn A x) (h1 : pB A.2.1 k x o) (h2 : pB A.2.1 j x o) : k = j := by
  obtain ⟨d, hd⟩ := hW.2.2.2.1
  have a := (pB_d hW hd k x o hx h1).2
  have b := (pB_d hW hd j x o hx h2).2
  omega
/-- the depths after o got another parent -/
theorem pD_new {A : pT} {d : Int32 → Nat} (hW : pW A) (hd : pD A d) {o v : Int32} {e : Nat} (ho : o ∈ A.1) (hv : (v = -1 ∧ e = 0) ∨ (pIn A v ∧ (¬ ∃ k, pB A.2.1 k v o) ∧ e = d v + 1)) (h8 : ∀ x ∈ A.1, ∀ k, pB A.2.1 k x o → k + e ≤ 8)
    {l : List Int32} {w : Int32 → Int32} (hl : ∀ x, x ∈ l ↔ x ∈ A.1) : ∃ d', pD (l, pU A.2.1 o v, w) d' := by
  have ho1 := hW.2.1 o ho
  have ho0 : (0 : Int32) ≠ o := by
    rintro rfl
    rw [ti_0] at ho1; omega
  have hin : ∀ x, pIn (l, pU A.2.1 o v, w) x ↔ pIn A x := fun x => by
    unfold pIn; rw [hl]
  obtain ⟨D, hD⟩ : ∃ D : Int32 → Nat, ∀ x, D x = pIf (∃ k, pB A.2.1 k x o) (d x - d o + e) (d x) := ⟨_, fun _ => rfl⟩
  refine ⟨D, ?_, ?_⟩
  · rw [hD, pIf_f, hd.1]
    rintro ⟨k, hk⟩
    cases k with
    | zero => exact ho0 hk
    | succ k => exact hk.1 hW.2.2.1.1
  · intro x hx
    have hx' := (hl x).mp hx
    have h1 := hd.2 x hx'
    refine ⟨?_, ?_⟩
    · rw [hD]
      by_cases hb : ∃ k, pB A.2.1 k x o
      · rw [pIf_t hb]
        obtain ⟨k, hk⟩ := hb
        have a := (pB_d hW hd k x o (Or.inr hx') hk).2
        have b := h8 x hx' k hk
        omega
      · rw [pIf_f hb]; exact h1.1
    · show (pU A.2.1 o v x = -1 ∧ D x = 0) ∨ (pIn _ (pU A.2.1 o v x) ∧ D x = D (pU A.2.1 o v x) + 1)
      by_cases hxo : x = o
      · subst hxo
        rw [pU_s, hD x, pIf_t (⟨0, rfl⟩ : ∃ k, pB A.2.1 k x x)]
        rcases hv with ⟨hv, he⟩ | ⟨hv, hn, he⟩
        · exact Or.inl ⟨hv, by omega⟩
        · refine Or.inr ⟨(hin v).mpr hv, ?_⟩
          rw [hD, pIf_f hn]; omega
      · rw [pU_n hxo]
        rcases h1.2 with ⟨hp, he⟩ | ⟨hp, he⟩
        · refine Or.inl ⟨hp, ?_⟩
          rw [hD, pIf_f, he]
          rintro ⟨k, hk⟩
          cases k with
          | zero => exact hxo hk
          | succ k => exact hk.1 hp
        · refine Or.inr ⟨(hin _).mpr hp, ?_⟩
          by_cases hb : ∃ k, pB A.2.1 k (A.2.1 x) o
          · have hb' : ∃ k, pB A.2.1 k x o := by
              obtain ⟨k, hk⟩ := hb
              exact ⟨k + 1, pIn_ne hW hp, hk⟩
            rw [hD, hD, pIf_t hb, pIf_t hb', he]
            obtain ⟨k, hk⟩ := hb
            have a := (pB_d hW hd k _ o hp hk).2
            omega
          · rw [hD, hD, pIf_f hb, pIf_f, he]
            rintro ⟨k, hk⟩
            cases k with
            | zero => exact hxo hk
            | succ k => exact hb ⟨k, hk.2⟩
theorem pRem_m {l : List Int32} {o x : Int32} : x ∈ pRem l o ↔ x ∈ l ∧ x ≠ o := by
  unfold pRem; rw [List.mem_filter]; simp
theorem pRem_d {l : List Int32} {o : Int32} (h : l.Nodup) : (pRem l o).Nodup := h.filter _
theorem pAft_m {b o x : Int32} : ∀ {l : List Int32}, b ∈ l → (x ∈ pAft b o l ↔ x ∈ l ∨ x = o)
  | [], h => by cases h
  | y :: ys, h => by
    unfold pAft
    split
    · simp only [List.mem_cons]; constructor
      · rintro (h | h | h) <;> simp [h]
      · rintro ((h | h) | h) <;> simp [h]
    · rename_i hy
      have h' : b ∈ ys := by
        rcases List.mem_cons.mp h with h | h
        · exact absurd h.symm hy
        · exact h
      rw [List.mem_cons, pAft_m h', List.mem_cons, or_assoc]
theorem pAft_d {b o : Int32} : ∀ {l : List Int32}, l.Nodup → o ∉ l → (pAft b o l).Nodup ∧ (∀ x, x ∈ pAft b o l → x ∈ l ∨ x = o)
  | [], _, _ => ⟨List.nodup_nil, fun x h => by cases h⟩
  | y :: ys, h, ho => by
    have h1 := List.nodup_cons.mp h
    have ho1 : o ≠ y ∧ o ∉ ys := by simpa using ho
    obtain ⟨a, b'⟩ := pAft_d (b := b) h1.2 ho1.2
    unfold pAft
    split
    · refine ⟨List.nodup_cons.mpr ⟨?_, List.nodup_cons.mpr ⟨ho1.2, h1.2⟩⟩, ?_⟩
      · intro hm
        rcases List.mem_cons.mp hm with e | e
        · exact ho1.1 e.symm
        · exact h1.1 e
      · intro x hx
        simp only [List.mem_cons] at hx ⊢
        rcases hx with h | h | h <;> simp [h]
    · refine ⟨List.nodup_cons.mpr ⟨?_, a⟩, ?_⟩
      · intro hm
        rcases b' y hm with e | e
        · exact h1.1 e
        · exact ho1.1 e.symm
      · intro x hx
        rcases List.mem_cons.mp hx with e | e
        · exact Or.inl (by rw [e]; exact List.mem_cons_self)
        · rcases b' x e with e | e
          · exact Or.inl (List.mem_cons_of_mem _ e)
          · exact Or.inr e
theorem pIns_m {l : List Int32} {p : Int32 → Int32} {b t o x : Int32} : x ∈ pIns l p b t o ↔ x ∈ l ∨ x = o := by
  unfold pIns
  split
  · rename_i h; exact pAft_m h.1
  · rw [List.mem_cons, or_comm]
theorem pIns_d {l : List Int32} {p : Int32 → Int32} {b t o : Int32} (h : l.Nodup) (ho : o ∉ l) : (pIns l p b t o).Nodup := by
  unfold pIns
  split
  · exact (pAft_d h ho).1
  · exact List.nodup_cons.mpr ⟨ho, h⟩
theorem pRem_o {l : List Int32} {o : Int32} : o ∉ pRem l o := fun h => (pRem_m.mp h).2 rfl
theorem pApp_d {l : List Int32} {o : Int32} (h : l.Nodup) (ho : o ∉ l) : (l ++ [o]).Nodup := by
  rw [List.nodup_append]
  refine ⟨h, List.nodup_cons.mpr ⟨List.not_mem_nil, List.nodup_nil⟩, fun a ha b hb e => ?_⟩
  rw [List.mem_singleton] at hb
  subst hb; subst e; exact ho ha
theorem pMay_e {A : pT} {d : Int32 → Nat} (hW : pW A) (hd : pD A d) {o t : Int32} (h : pMay A o t) : ∀ x ∈ A.1, ∀ k, pB A.2.1 k x o → k + (d t + 1) ≤ 8 := by
  intro x hx k hk
  obtain ⟨a, ha⟩ := h.2.2.1
  have h1 := h.2.2.2.2 x hx a k ha hk
  have h2 := (pB_d hW hd a t 0 h.2.1 ha).2
  have h3 := hd.1
  omega
theorem pW_back {A : pT} (hW : pW A) {o t : Int32} (ho : 1 ≤ o.toInt) (h : pMay A o t) {l : List Int32} (hl : ∀ x, x ∈ l ↔ x ∈ A.1) (hn : l.Nodup) : pW (l, pU A.2.1 o t, pU A.2.2 o t) := by
  obtain ⟨d, hd⟩ := hW.2.2.2.1
  have ho' := pIn_l h.1 ho
  have h0 : (0 : Int32) ≠ o := by rintro rfl; rw [ti_0] at ho; omega
  refine ⟨hn, fun x hx => hW.2.1 x ((hl x).mp hx), ⟨?_, ?_⟩, pD_new hW hd ho' (Or.inr ⟨h.2.1, h.2.2.2.1, rfl⟩) (pMay_e hW hd h) hl, fun x hx => ?_⟩
  · show pU A.2.1 o t 0 = -1
    rw [pU_n h0]; exact hW.2.2.1.1
  · show pU A.2.2 o t 0 = -1
    rw [pU_n h0]; exact hW.2.2.1.2
  · show 0 ≤ (pU A.2.2 o t x).toInt ∧ (pU A.2.2 o t x).toInt < 40
    by_cases hx' : x = o
    · rw [hx', pU_s]; exact pIn_r hW h.2.1
    · rw [pU_n hx']; exact hW.2.2.2.2 x ((hl x).mp hx)
theorem pL_app {A : pT} {o : Int32} (ho : o ∈ A.1) : ∀ x, x ∈ pRem A.1 o ++ [o] ↔ x ∈ A.1 := by
  intro x
  rw [List.mem_append, pRem_m, List.mem_singleton]
  constructor
  · rintro (h | h)
    · exact h.1
    · rw [h]; exact ho
  · intro h
    by_cases e : x = o
    · exact Or.inr e
    · exact Or.inl ⟨h, e⟩
theorem pL_ins {A : pT} {o b t : Int32} {p : Int32 → Int32} (ho : o ∈ A.1) : ∀ x, x ∈ pIns (pRem A.1 o) p b t o ↔ x ∈ A.1 := by
  intro x
  rw [pIns_m, pRem_m]
  constructor
  · rintro (h | h)
    · exact h.1
    · rw [h]; exact ho
  · intro h
    by_cases e : x = o
    · exact Or.inr e
    · exact Or.inl ⟨h, e⟩
theorem pW_throw {A : pT} (hW : pW A) {o : Int32} (ho : o ∈ A.1) : pW (pThrow A o) := by
  obtain ⟨d, hd⟩ := hW.2.2.2.1
  have ho1 := (hW.2.1 o ho).1
  have h0 : (0 : Int32) ≠ o := by rintro rfl; rw [ti_0] at ho1; omega
  refine ⟨pApp_d (pRem_d hW.1) pRem_o, fun x hx => hW.2.1 x ((pL_app ho x).mp hx), ⟨?_, hW.2.2.1.2⟩, pD_new hW hd ho (Or.inl ⟨rfl, rfl⟩) (fun x hx k hk => ?_) (pL_app ho), fun x hx => hW.2.2.2.2 x ((pL_app ho x).mp hx)⟩
  · show pU A.2.1 o (-1) 0 = -1
    rw [pU_n h0]; exact hW.2.2.1.1
  · have a := (pB_d hW hd k x o (Or.inr hx) hk).2
    have b := (hd.2 x hx).1
    omega
theorem pW_make {A : pT} (hW : pW A) {o : Int32} (h1 : 1 ≤ o.toInt ∧ o.toInt < 40) (ho : o ∉ A.1) : pW (pMake A o) := by
  obtain ⟨d, hd⟩ := hW.2.2.2.1
  have h0 : (0 : Int32) ≠ o := by rintro rfl; rw [ti_0] at h1; omega
  have hm : ∀ x, x ∈ A.1 ++ [o] ↔ x ∈ A.1 ∨ x = o := fun x => by rw [List.mem_append, List.mem_singleton]
  refine ⟨pApp_d hW.1 ho, fun x hx => ?_, ⟨?_, ?_⟩, ⟨fun x => if x = o then 0 else d x, ?_, fun x hx => ?_⟩, fun x hx => ?_⟩
  · rcases (hm x).mp hx with h | h
    · exact hW.2.1 x h
    · rw [h]; exact h1
  · show pU A.2.1 o (-1) 0 = -1
    rw [pU_n h0]; exact hW.2.2.1.1
  · show pU A.2.2 o 0 0 = -1
    rw [pU_n h0]; exact hW.2.2.1.2
  · show (if (0 : Int32) = o then 0 else d 0) = 0
    rw [if_neg h0]; exact hd.1
  · show (if x = o then 0 else d x) ≤ 8 ∧ ((pU A.2.1 o (-1) x = -1 ∧ (if x = o then 0 else d x) = 0) ∨ (pIn (pMake A o) (pU A.2.1 o (-1) x) ∧ (if x = o then 0 else d x) = (if pU A.2.1 o (-1) x = o then 0 else d (pU A.2.1 o (-1) x)) + 1))
    by_cases e : x = o
    · rw [if_pos e, e, pU_s]; exact ⟨by omega, Or.inl ⟨rfl, rfl⟩⟩
    · rw [if_neg e, pU_n e]
      have hx' : x ∈ A.1 := by
        rcases (hm x).mp hx with h | h
        · exact h
        · exact absurd h e
      obtain ⟨a, b⟩ := hd.2 x hx'
      refine ⟨a, ?_⟩
      rcases b with b | ⟨b, c⟩
      · exact Or.inl b
      · refine Or.inr ⟨?_, ?_⟩
        · rcases b with b | b
          · exact Or.inl b
          · exact Or.inr ((hm _).mpr (Or.inl b))
        · rw [if_neg, c]
          intro e2
          rcases b with b | b
          · rw [e2] at b; exact h0 b.symm
          · rw [e2] at b; exact ho b
  · show 0 ≤ (pU A.2.2 o 0 x).toInt ∧ (pU A.2.2 o 0 x).toInt < 40
    by_cases e : x = o
    · rw [e, pU_s, ti_0]; omega
    · rw [pU_n e]
      rcases (hm x).mp hx with h | h
      · exact hW.2.2.2.2 x h
      · exact absurd h e
theorem pW_step {A : pT} (hW : pW A) {s o t b : Int32} (h1 : 1 ≤ o.toInt ∧ o.toInt < 40) (h0 : s = 0 → o ∉ A.1) : pW (pStep A s o t b).2 := by
  unfold pStep
  split
  · rename_i hs; exact pW_make hW h1 (h0 hs)
  · split
    · by_cases h : pMay A o t
      · rw [pIf_t h]
        have ho := pIn_l h.1 h1.1
        exact pW_back hW h1.1 h (pL_ins ho) (pIns_d (pRem_d hW.1) pRem_o)
      · rw [pIf_f h]; exact hW
    · split
      · by_cases h : pIn A o ∧ A.2.1 o ≠ -1
        · rw [pIf_t h]; exact pW_throw hW (pIn_l h.1 h1.1)
        · rw [pIf_f h]; exact hW
      · by_cases h : pIn A o ∧ A.2.1 o = -1
        · rw [pIf_t h]
          have ho := pIn_l h.1 h1.1
          by_cases h2 : pMay A o (A.2.2 o)
          · rw [pIf_t h2]; exact pW_back hW h1.1 h2 (pL_app ho) (pApp_d (pRem_d hW.1) pRem_o)
          · rw [pIf_f h2]
            by_cases h3 : pMay A o 0
            · rw [pIf_t h3]; exact pW_back hW h1.1 h3 (pL_app ho) (pApp_d (pRem_d hW.1) pRem_o)
            · rw [pIf_f h3]; exact hW
        · rw [pIf_f h]; exact hW
theorem pW_len {A : pT} (hW : pW A) : A.1.length ≤ 39 := pg_i hW.1 (fun x hx => by have := hW.2.1 x hx; omega)
def pA0 : pT := ([], fun _ => -1, fun _ => -1)
theorem pW_0 : pW pA0 := ⟨List.nodup_nil, fun x hx => (List.not_mem_nil hx).elim, ⟨rfl, rfl⟩, ⟨fun _ => 0, rfl, fun x hx => (List.not_mem_nil hx).elim⟩, fun x hx => (List.not_mem_nil hx).elim⟩
