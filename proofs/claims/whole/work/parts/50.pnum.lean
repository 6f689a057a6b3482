/-! the pure part: numbers, runs of an array, choice -/
def pq (n : Nat) : Int32 := Int32.ofNat n
theorem pq_i {n : Nat} (h : n < 2147483648) : (pq n).toInt = n := Int32.toInt_ofNat_of_lt h
theorem pq_n {n : Nat} (h : n < 2147483648) : (pq n).toNatClampNeg = n := by
  have h1 : (pq n).toNatClampNeg = (pq n).toInt.toNat := rfl
  rw [h1, pq_i h]; rfl
theorem pq_add (a b : Nat) : pq a + pq b = pq (a + b) := (Int32.ofNat_add a b).symm
theorem pq_mul (a b : Nat) : pq a * pq b = pq (a * b) := (Int32.ofNat_mul a b).symm
theorem pq_inc (n : Nat) : pq n + 1 = pq (n + 1) := pq_add n 1
theorem pq_dec' (n : Nat) : pq (n + 1) - 1 = pq n := by
  rw [← pq_inc]; exact Int32.add_sub_cancel _ _
theorem pq_dec (n : Nat) : pq (n + 1) + (-1) = pq n := by
  rw [← Int32.sub_eq_add_neg]; exact pq_dec' n
theorem pq_of {x : Int32} (h : 0 ≤ x.toInt) : pq x.toNatClampNeg = x := by
  apply Int32.toInt_inj.mp
  have h1 : x.toNatClampNeg = x.toInt.toNat := rfl
  have h2 := ti_hi x
  rw [pq_i (by omega)]; omega
theorem pq_inj {a b : Nat} (ha : a < 2147483648) (hb : b < 2147483648) : pq a = pq b ↔ a = b := by
  constructor
  · intro h; have := congrArg Int32.toInt h; rw [pq_i ha, pq_i hb] at this; omega
  · intro h; rw [h]
theorem pq_le {a b : Nat} (ha : a < 2147483648) (hb : b < 2147483648) : pq a ≤ pq b ↔ a ≤ b := by
  rw [Int32.le_iff_toInt_le, pq_i ha, pq_i hb]; omega
theorem pq_lt {a b : Nat} (ha : a < 2147483648) (hb : b < 2147483648) : pq a < pq b ↔ a < b := by
  rw [Int32.lt_iff_toInt_lt, pq_i ha, pq_i hb]; omega
theorem pq_0 : pq 0 = 0 := rfl
theorem pq_1 : pq 1 = 1 := rfl
theorem pq_40 : pq 40 = 40 := rfl
theorem pq_300 : pq 300 = 300 := rfl
theorem pq_301 : pq 301 = 301 := rfl
theorem pq_ne1 {n : Nat} (h : n < 2147483648) : ¬ pq n = -1 := by
  intro e
  have := congrArg Int32.toInt e
  rw [pq_i h, ti_m1] at this; omega
theorem pn_inj {x y : Int32} (hx : 0 ≤ x.toInt) (hy : 0 ≤ y.toInt) (h : x.toNatClampNeg = y.toNatClampNeg) : x = y := by
  rw [← pq_of hx, ← pq_of hy, h]
theorem pn_i {x : Int32} (hx : 0 ≤ x.toInt) : (x.toNatClampNeg : Int) = x.toInt := by
  have h1 : x.toNatClampNeg = x.toInt.toNat := rfl
  omega
theorem pi_ext {x y : Int32} (h : x.toInt = y.toInt) : x = y := Int32.toInt_inj.mp h
noncomputable def pIf {α : Type} (P : Prop) (a b : α) : α := @ite α P (Classical.propDecidable P) a b
theorem pIf_t {α : Type} {P : Prop} {a b : α} (h : P) : pIf P a b = a := by
  unfold pIf; exact if_pos h
theorem pIf_f {α : Type} {P : Prop} {a b : α} (h : ¬ P) : pIf P a b = b := by
  unfold pIf; exact if_neg h
/-- the run of m elements from a -/
def seg (f : Nat → Int32) (a m : Nat) : List Int32 := (List.range' a m).map f
theorem seg_0 (f : Nat → Int32) (a : Nat) : seg f a 0 = [] := rfl
theorem seg_s (f : Nat → Int32) (a m : Nat) : seg f a (m + 1) = f a :: seg f (a + 1) m := rfl
theorem seg_len (f : Nat → Int32) (a m : Nat) : (seg f a m).length = m := by simp [seg]
theorem seg_app (f : Nat → Int32) (a m n : Nat) : seg f a (m + n) = seg f a m ++ seg f (a + m) n := by
  unfold seg; rw [← List.map_append, List.range'_append_1]
theorem seg_e (f : Nat → Int32) (a m : Nat) : seg f a (m + 1) = seg f a m ++ [f (a + m)] := by
  rw [seg_app]; rfl
theorem seg_get (f : Nat → Int32) (a m j : Nat) (h : j < m) : (seg f a m)[j]? = some (f (a + j)) := by
  unfold seg
  rw [List.getElem?_map, List.getElem?_range' h]; simp
theorem seg_mem {f : Nat → Int32} {a m : Nat} {x : Int32} : x ∈ seg f a m ↔ ∃ j, a ≤ j ∧ j < a + m ∧ f j = x := by
  unfold seg
  rw [List.mem_map]
  constructor
  · rintro ⟨j, h, e⟩; rw [List.mem_range'_1] at h; exact ⟨j, h.1, h.2, e⟩
  · rintro ⟨j, h1, h2, e⟩; exact ⟨j, List.mem_range'_1.mpr ⟨h1, h2⟩, e⟩
theorem seg_congr {f g : Nat → Int32} {a m : Nat} (h : ∀ j, a ≤ j → j < a + m → f j = g j) : seg f a m = seg g a m := by
  unfold seg
  apply List.map_congr_left
  intro j hj
  rw [List.mem_range'_1] at hj
  exact h j hj.1 hj.2
theorem seg_upd {f : Nat → Int32} {a m k : Nat} {x : Int32} (h : k < a ∨ a + m ≤ k) : seg (upd f k x) a m = seg f a m :=
  seg_congr fun j h1 h2 => pk_un (by omega)
theorem seg_updE {f : Nat → Int32} {a k : Nat} {x : Int32} : seg (upd f (a + k) x) a (k + 1) = seg f a k ++ [x] := by
  rw [seg_e, seg_upd (Or.inr (Nat.le_refl _)), pk_us]
/-- a list whose elements lie below n and differ is no longer than n -/
theorem pg_nat : ∀ (n : Nat) (l : List Nat), l.Nodup → (∀ x ∈ l, x < n) → l.length ≤ n
  | 0, l, _, h => by
    cases l with
    | nil => simp
    | cons a l => exact absurd (h a (List.mem_cons_self)) (by omega)
  | n + 1, l, hd, h => by
    have h1 := pg_nat n (l.erase n) (hd.erase n) (fun x hx => by
      have a := h x (List.mem_of_mem_erase hx)
      have b : x ≠ n := fun e => by
        subst e
        exact (List.Nodup.mem_erase_iff hd).mp hx |>.1 rfl
      omega)
    by_cases hm : n ∈ l
    · have := List.length_erase_of_mem hm
      omega
    · rw [List.erase_of_not_mem hm] at h1; omega
theorem pg_i {n : Nat} {l : List Int32} (hd : l.Nodup) (h : ∀ x ∈ l, 1 ≤ x.toInt ∧ x.toInt < n + 1) : l.length ≤ n := by
  have h1 := pg_nat n (l.map fun x => x.toNatClampNeg - 1) (List.Pairwise.map _ (S := fun a b => a ≠ b) (R := fun a b => a ∈ l ∧ b ∈ l ∧ a ≠ b) (fun a b hab e => by
    obtain ⟨ha, hb, hn⟩ := hab
    have a1 := h a ha
    have b1 := h b hb
    have a2 := pn_i (x := a) (by omega)
    have b2 := pn_i (x := b) (by omega)
    exact hn (pn_inj (by omega) (by omega) (by omega))) (List.Pairwise.imp_of_mem (fun ha hb hab => ⟨ha, hb, hab⟩) hd)) (fun x hx => by
    obtain ⟨y, hy, rfl⟩ := List.mem_map.mp hx
    have a1 := h y hy
    have a2 := pn_i (x := y) (by omega)
    omega)
  simpa using h1
